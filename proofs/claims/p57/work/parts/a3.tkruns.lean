def tu_t93 : List tk_I := [(41, [], []), (1, [([(0, 5, 0, 0, 0, 0)], [(24, 1, 0), (6, 0, 10), (1, 7, 0)], [], [((24, 1, 0), (1, 0, 4), (1, 5, 0)), ((24, 1, 0), (1, 0, 2), (1, 4, 0)), ((24, 1, 0), (1, 0, 3), (1, 3, 0)), ((24, 1, 0), (1, 0, 0), (11, 2, 0))], (7, 0), true)], []), (41, [], []), (13, [], [])]
theorem tu_p93 : tk_ck tt_T tt_sc tt_nt (tu_K 93) tt_nw 8000 tu_t93 tu_k93 = true := by decide +kernel
def tu_t94 : List tk_I := [(56, [], []), (1, [([(0, 5, 0, 0, 0, 0)], [(24, 1, 0), (6, 0, 24), (1, 7, 0)], [], [((24, 1, 0), (1, 0, 4), (1, 5, 0)), ((24, 1, 0), (1, 0, 2), (1, 4, 0)), ((24, 1, 0), (1, 0, 3), (1, 3, 0)), ((24, 1, 0), (1, 0, 0), (11, 2, 0))], (7, 0), true)], []), (56, [], []), (18, [], [])]
theorem tu_p94 : tk_ck tt_T tt_sc tt_nt (tu_K 94) tt_nw 8000 tu_t94 tu_k94 = true := by decide +kernel
def tu_t95 : List tk_I := [(61, [], []), (1, [([(0, 4, 0, 0, 0, 0)], [(24, 1, 0), (6, 0, 29), (1, 7, 0)], [], [((24, 1, 0), (1, 0, 4), (1, 5, 0)), ((24, 1, 0), (1, 0, 2), (1, 4, 0)), ((24, 1, 0), (1, 0, 3), (1, 3, 0)), ((24, 1, 0), (1, 0, 0), (11, 2, 0))], (7, 0), true)], []), (61, [], []), (12, [], [])]
theorem tu_p95 : tk_ck tt_T tt_sc tt_nt (tu_K 95) tt_nw 8000 tu_t95 tu_k95 = true := by decide +kernel
def tu_t96 : List tk_I := [(39, [], []), (1, [([(0, 3, 0, 0, 0, 0)], [(24, 1, 0), (6, 0, 0), (1, 7, 0)], [], [((24, 1, 0), (1, 0, 4), (1, 5, 0)), ((24, 1, 0), (1, 0, 2), (1, 4, 0)), ((24, 1, 0), (1, 0, 3), (1, 3, 0)), ((24, 1, 0), (1, 0, 0), (11, 2, 0))], (7, 0), true)], []), (39, [], []), (5, [], [])]
theorem tu_p96 : tk_ck tt_T tt_sc tt_nt (tu_K 96) tt_nw 8000 tu_t96 tu_k96 = true := by decide +kernel
def tu_t97 : List tk_I := [(64, [], []), (1, [([(0, 6, 0, 0, 0, 0)], [(24, 1, 0), (6, 0, 4), (1, 7, 0)], [], [((24, 1, 0), (1, 0, 4), (1, 5, 0)), ((24, 1, 0), (1, 0, 2), (1, 4, 0)), ((24, 1, 0), (1, 0, 3), (1, 3, 0)), ((24, 1, 0), (1, 0, 0), (11, 2, 0))], (7, 0), true)], []), (64, [], []), (27, [], [])]
theorem tu_p97 : tk_ck tt_T tt_sc tt_nt (tu_K 97) tt_nw 8000 tu_t97 tu_k97 = true := by decide +kernel
def tu_t98 : List tk_I := [(40, [], []), (1, [([(0, 2, 0, 0, 0, 0)], [(24, 1, 0), (6, 0, 1), (1, 7, 0)], [], [((24, 1, 0), (1, 0, 4), (1, 5, 0)), ((24, 1, 0), (1, 0, 2), (1, 4, 0)), ((24, 1, 0), (1, 0, 3), (1, 3, 0)), ((24, 1, 0), (1, 0, 0), (11, 2, 0))], (7, 0), true)], []), (40, [], []), (2, [], [])]
theorem tu_p98 : tk_ck tt_T tt_sc tt_nt (tu_K 98) tt_nw 8000 tu_t98 tu_k98 = true := by decide +kernel
def tu_t99 : List tk_I := [(66, [], []), (1, [([(0, 5, 0, 0, 0, 0)], [(24, 1, 0), (6, 0, 6), (1, 7, 0)], [], [((24, 1, 0), (1, 0, 4), (1, 5, 0)), ((24, 1, 0), (1, 0, 2), (1, 4, 0)), ((24, 1, 0), (1, 0, 3), (1, 3, 0)), ((24, 1, 0), (1, 0, 0), (11, 2, 0))], (7, 0), true)], []), (66, [], []), (22, [], [])]
theorem tu_p99 : tk_ck tt_T tt_sc tt_nt (tu_K 99) tt_nw 8000 tu_t99 tu_k99 = true := by decide +kernel
def tu_t100 : List tk_I := [(57, [], []), (1, [([(0, 5, 0, 0, 0, 0)], [(24, 1, 0), (6, 0, 25), (1, 7, 0)], [], [((24, 1, 0), (1, 0, 4), (1, 5, 0)), ((24, 1, 0), (1, 0, 2), (1, 4, 0)), ((24, 1, 0), (1, 0, 3), (1, 3, 0)), ((24, 1, 0), (1, 0, 0), (11, 2, 0))], (7, 0), true)], []), (57, [], []), (19, [], [])]
theorem tu_p100 : tk_ck tt_T tt_sc tt_nt (tu_K 100) tt_nw 8000 tu_t100 tu_k100 = true := by decide +kernel
def tu_t101 : List tk_I := [(51, [], []), (1, [([(0, 8, 0, 0, 0, 0)], [(24, 1, 0), (6, 0, 2), (1, 7, 0)], [], [((24, 1, 0), (1, 0, 4), (1, 5, 0)), ((24, 1, 0), (1, 0, 2), (1, 4, 0)), ((24, 1, 0), (1, 0, 3), (1, 3, 0)), ((24, 1, 0), (1, 0, 0), (11, 2, 0))], (7, 0), true)], []), (51, [], []), (31, [], [])]
theorem tu_p101 : tk_ck tt_T tt_sc tt_nt (tu_K 101) tt_nw 8000 tu_t101 tu_k101 = true := by decide +kernel
def tu_t102 : List tk_I := [(44, [], []), (1, [([(0, 4, 0, 0, 0, 0)], [(24, 1, 0), (6, 0, 13), (1, 7, 0)], [], [((24, 1, 0), (1, 0, 4), (1, 5, 0)), ((24, 1, 0), (1, 0, 2), (1, 4, 0)), ((24, 1, 0), (1, 0, 3), (1, 3, 0)), ((24, 1, 0), (1, 0, 0), (11, 2, 0))], (7, 0), true)], []), (44, [], []), (9, [], [])]
theorem tu_p102 : tk_ck tt_T tt_sc tt_nt (tu_K 102) tt_nw 8000 tu_t102 tu_k102 = true := by decide +kernel
def tu_t103 : List tk_I := [(68, [], []), (1, [([(0, 6, 0, 0, 0, 0)], [(24, 1, 0), (6, 0, 8), (1, 7, 0)], [], [((24, 1, 0), (1, 0, 4), (1, 5, 0)), ((24, 1, 0), (1, 0, 2), (1, 4, 0)), ((24, 1, 0), (1, 0, 3), (1, 3, 0)), ((24, 1, 0), (1, 0, 0), (11, 2, 0))], (7, 0), true)], []), (68, [], []), (29, [], [])]
theorem tu_p103 : tk_ck tt_T tt_sc tt_nt (tu_K 103) tt_nw 8000 tu_t103 tu_k103 = true := by decide +kernel
def tu_t104 : List tk_I := [(50, [], []), (1, [([(0, 3, 0, 0, 0, 0)], [(24, 1, 0), (6, 0, 19), (1, 7, 0)], [], [((24, 1, 0), (1, 0, 4), (1, 5, 0)), ((24, 1, 0), (1, 0, 2), (1, 4, 0)), ((24, 1, 0), (1, 0, 3), (1, 3, 0)), ((24, 1, 0), (1, 0, 0), (11, 2, 0))], (7, 0), true)], []), (50, [], []), (6, [], [])]
theorem tu_p104 : tk_ck tt_T tt_sc tt_nt (tu_K 104) tt_nw 8000 tu_t104 tu_k104 = true := by decide +kernel
def tu_t182 : List tk_I := []
theorem tu_p182 : tk_ck tt_T tt_sc tt_nt (tu_K 182) tt_nw 8000 tu_t182 tu_k182 = true := by decide +kernel
def tu_t423 : List tk_I := [(0, [], []), (0, [], []), (411, [], [])]
theorem tu_p423 : tk_ck tt_T tt_sc tt_nt (tu_K 423) tt_nw 8000 tu_t423 tu_k423 = true := by decide +kernel
def tu_t343 : List tk_I := [(188, [], []), (239, [], []), (240, [], []), (115, [], []), (1, [([(0, 12, 0, 0, 0, 0)], [(31, 1, 0), (17, 2, 0), (1, 4, 0)], [], [((31, 1, 0), (1, 0, 2), (33, 3, 0))], (4, 0), true)], []), (1, [([((-1), 11, 0, 0, 0, 0)], [(31, 1, 0), (17, 2, 0), (1, 7, 0)], [], [((17, 2, 0), (1, 0, 1), (1, 5, 0)), ((31, 1, 0), (1, 0, 2), (33, 3, 0))], (7, 0), false)], []), (303, [], []), (187, [], []), (187, [], [])]
theorem tu_p343 : tk_ck tt_T tt_sc tt_nt (tu_K 343) tt_nw 8000 tu_t343 tu_k343 = true := by decide +kernel
def tu_t381 : List tk_I := [(329, [], []), (1, [([(0, 12, 0, 0, 0, 0)], [(53, 1, 0), (1, 2, 0), (1, 3, 0), (0, 0, 0)], [], [], (3, 0), true)], []), (1, [([(0, 7, 0, 0, 0, 0)], [(53, 1, 0), (1, 2, 0), (1, 3, 0), (1, 7, 0)], [], [((53, 1, 0), (1, 0, 17), (60, 4, 0))], (7, 0), true)], []), (164, [], [])]
theorem tu_p381 : tk_ck tt_T tt_sc tt_nt (tu_K 381) tt_nw 8000 tu_t381 tu_k381 = true := by decide +kernel
def tu_t307 : List tk_I := [(1, [([(0, 2147483647, 0, 0, 0, 0), (0, 7, 0, 0, 0, 0)], [(10, 1, 0), (1, 2, 0), (1, 3, 0), (1, 4, 0)], [], [], (4, 0), true)], []), (0, [], []), (243, [], []), (251, [], [])]
theorem tu_p307 : tk_ck tt_T tt_sc tt_nt (tu_K 307) tt_nw 8000 tu_t307 tu_k307 = true := by decide +kernel
def tu_t162 : List tk_I := []
theorem tu_p162 : tk_ck tt_T tt_sc tt_nt (tu_K 162) tt_nw 8000 tu_t162 tu_k162 = true := by decide +kernel
def tu_t277 : List tk_I := [(1, [([((-2147483648), 2147483647, 0, 0, 0, 0), (0, 6, 0, 0, 0, 0)], [(53, 1, 0), (1, 2, 0), (1, 3, 0), (1, 4, 0), (1, 5, 0)], [], [], (5, 0), true)], []), (176, [], [])]
theorem tu_p277 : tk_ck tt_T tt_sc tt_nt (tu_K 277) tt_nw 8000 tu_t277 tu_k277 = true := by decide +kernel
def tu_t418 : List tk_I := [(0, [], []), (395, [], [])]
theorem tu_p418 : tk_ck tt_T tt_sc tt_nt (tu_K 418) tt_nw 8000 tu_t418 tu_k418 = true := by decide +kernel
def tu_t344 : List tk_I := [(1, [([(1, 41, 0, 0, 0, 0)], [(38, 1, 0), (21, 2, 0), (31, 3, 0), (1, 4, 0), (1, 5, 0), (0, 0, 0)], [], [], (5, 0), true)], []), (243, [], []), (304, [], [])]
theorem tu_p344 : tk_ck tt_T tt_sc tt_nt (tu_K 344) tt_nw 8000 tu_t344 tu_k344 = true := by decide +kernel
def tu_t313 : List tk_I := [(0, [], []), (1, [([((-1), 11, 0, 0, 0, 0), (0, 2147483647, 0, 0, 0, 0), (0, 12, 0, 0, 0, 0)], [(10, 1, 0), (1, 2, 0), (1, 3, 0), (1, 4, 0), (1, 5, 0), (0, 0, 0)], [], [], (5, 0), true)], []), (256, [], [])]
theorem tu_p313 : tk_ck tt_T tt_sc tt_nt (tu_K 313) tt_nw 8000 tu_t313 tu_k313 = true := by decide +kernel
def tu_t357 : List tk_I := [(0, [], []), (1, [([((-1), 11, 0, 0, 0, 0), (0, 2147483647, 0, 0, 0, 0), (0, 12, 0, 0, 0, 0)], [(10, 1, 0), (1, 2, 0), (1, 3, 0), (1, 4, 0), (1, 5, 0), (0, 0, 0)], [], [], (5, 0), true)], []), (323, [], [])]
theorem tu_p357 : tk_ck tt_T tt_sc tt_nt (tu_K 357) tt_nw 8000 tu_t357 tu_k357 = true := by decide +kernel
def tu_t310 : List tk_I := [(0, [], []), (0, [], []), (255, [], [])]
theorem tu_p310 : tk_ck tt_T tt_sc tt_nt (tu_K 310) tt_nw 8000 tu_t310 tu_k310 = true := by decide +kernel
def tu_t312 : List tk_I := [(0, [], []), (0, [], []), (256, [], [])]
theorem tu_p312 : tk_ck tt_T tt_sc tt_nt (tu_K 312) tt_nw 8000 tu_t312 tu_k312 = true := by decide +kernel
def tu_t320 : List tk_I := [(0, [], []), (0, [], []), (258, [], [])]
theorem tu_p320 : tk_ck tt_T tt_sc tt_nt (tu_K 320) tt_nw 8000 tu_t320 tu_k320 = true := by decide +kernel
def tu_t351 : List tk_I := [(0, [], []), (0, [], []), (310, [], [])]
theorem tu_p351 : tk_ck tt_T tt_sc tt_nt (tu_K 351) tt_nw 8000 tu_t351 tu_k351 = true := by decide +kernel
def tu_t352 : List tk_I := [(0, [], []), (0, [], []), (313, [], [])]
theorem tu_p352 : tk_ck tt_T tt_sc tt_nt (tu_K 352) tt_nw 8000 tu_t352 tu_k352 = true := by decide +kernel
def tu_t332 : List tk_I := [(178, [], []), (178, [], []), (271, [], []), (177, [], [])]
theorem tu_p332 : tk_ck tt_T tt_sc tt_nt (tu_K 332) tt_nw 8000 tu_t332 tu_k332 = true := by decide +kernel
def tu_t274 : List tk_I := [(164, [], []), (164, [], [])]
theorem tu_p274 : tk_ck tt_T tt_sc tt_nt (tu_K 274) tt_nw 8000 tu_t274 tu_k274 = true := by decide +kernel
def tu_t174 : List tk_I := []
theorem tu_p174 : tk_ck tt_T tt_sc tt_nt (tu_K 174) tt_nw 8000 tu_t174 tu_k174 = true := by decide +kernel
def tu_t259 : List tk_I := [(0, [], []), (113, [], [])]
theorem tu_p259 : tk_ck tt_T tt_sc tt_nt (tu_K 259) tt_nw 8000 tu_t259 tu_k259 = true := by decide +kernel
def tu_t107 : List tk_I := [(1, [([(0, 120, 0, 0, 0, 0)], [(26, 1, 0), (1, 2, 0), (1, 3, 0), (1, 4, 0)], [], [], (4, 0), true)], []), (0, [], [])]
theorem tu_p107 : tk_ck tt_T tt_sc tt_nt (tu_K 107) tt_nw 8000 tu_t107 tu_k107 = true := by decide +kernel
def tu_t338 : List tk_I := [(302, [], []), (283, [], []), (287, [], []), (237, [], []), (74, [], [])]
theorem tu_p338 : tk_ck tt_T tt_sc tt_nt (tu_K 338) tt_nw 8000 tu_t338 tu_k338 = true := by decide +kernel
def tu_t71 : List tk_I := []
theorem tu_p71 : tk_ck tt_T tt_sc tt_nt (tu_K 71) tt_nw 8000 tu_t71 tu_k71 = true := by decide +kernel
def tu_t339 : List tk_I := [(302, [], []), (284, [], []), (288, [], []), (237, [], []), (74, [], [])]
theorem tu_p339 : tk_ck tt_T tt_sc tt_nt (tu_K 339) tt_nw 8000 tu_t339 tu_k339 = true := by decide +kernel
def tu_t432 : List tk_I := [(426, [], []), (1, [([((-9223372036854775808), 1000000, 0, 0, 0, 0), (0, 12, 0, 0, 0, 0)], [(53, 1, 0), (2, 3, 0), (0, 0, 0), (1, 4, 0)], [], [((53, 1, 0), (1, 0, 0), (1, 0, 0))], (4, 0), true)], []), (173, [], [])]
theorem tu_p432 : tk_ck tt_T tt_sc tt_nt (tu_K 432) tt_nw 8000 tu_t432 tu_k432 = true := by decide +kernel
def tu_t266 : List tk_I := [(162, [], []), (0, [], []), (0, [], [])]
theorem tu_p266 : tk_ck tt_T tt_sc tt_nt (tu_K 266) tt_nw 8000 tu_t266 tu_k266 = true := by decide +kernel
def tu_t384 : List tk_I := [(1, [([(0, 730, 0, 0, 0, 0)], [(53, 1, 0), (1, 2, 0), (0, 0, 0)], [], [((53, 1, 0), (1, 0, 47), (1, 0, 12))], (2, 0), true)], []), (1, [([(0, 12, 0, 0, 0, 0)], [(53, 1, 0), (1, 3, 0), (0, 0, 0)], [], [((53, 1, 0), (1, 0, 47), (1, 0, 12))], (3, 0), true)], []), (272, [], []), (329, [], []), (1, [([(0, 12, 0, 0, 0, 0)], [(53, 1, 0), (1, 2, 0), (1, 3, 0)], [], [((53, 1, 0), (1, 0, 47), (1, 0, 12))], (3, 0), true)], [])]
theorem tu_p384 : tk_ck tt_T tt_sc tt_nt (tu_K 384) tt_nw 8000 tu_t384 tu_k384 = true := by decide +kernel
def tu_t353 : List tk_I := [(0, [], []), (0, [], []), (313, [], []), (313, [], [])]
theorem tu_p353 : tk_ck tt_T tt_sc tt_nt (tu_K 353) tt_nw 8000 tu_t353 tu_k353 = true := by decide +kernel
def tu_t420 : List tk_I := [(0, [], []), (244, [], []), (107, [], []), (396, [], [])]
theorem tu_p420 : tk_ck tt_T tt_sc tt_nt (tu_K 420) tt_nw 8000 tu_t420 tu_k420 = true := by decide +kernel
def tu_t114 : List tk_I := [(1, [([((-2147483648), 2147483647, 0, 0, 0, 0), (0, 36, 0, 0, 0, 0)], [(31, 1, 0), (35, 2, 0), (1, 3, 0), (1, 4, 0), (1, 5, 0), (1, 6, 0), (0, 0, 0)], [], [], (6, 0), true)], []), (1, [([((-2147483648), 730, 0, 0, 0, 0)], [(31, 1, 0), (35, 2, 0), (1, 3, 0), (1, 4, 0), (1, 5, 0), (1, 6, 0), (0, 0, 0)], [(1, 11, 0)], [((31, 1, 0), (1, 0, 0), (32, 9, 0)), ((31, 1, 0), (1, 0, 1), (1, 7, 0))], (0, 0), true)], []), (1, [([(0, 2147483647, 0, 0, 0, 0)], [(31, 1, 0), (35, 2, 0), (1, 3, 0), (1, 4, 0), (1, 5, 0), (1, 6, 0), (0, 0, 0)], [(1, 13, 0), (1, 11, 0)], [((31, 1, 0), (1, 0, 0), (32, 9, 0)), ((31, 1, 0), (1, 0, 1), (1, 7, 0))], (0, 0), true)], [])]
theorem tu_p114 : tk_ck tt_T tt_sc tt_nt (tu_K 114) tt_nw 8000 tu_t114 tu_k114 = true := by decide +kernel
def tu_t350 : List tk_I := [(0, [], []), (1, [([((-1), 11, 0, 0, 0, 0), ((-1), 7, 0, 0, 0, 0), (0, 12, 0, 0, 0, 0)], [(10, 1, 0), (1, 2, 0), (1, 3, 0), (1, 4, 0), (1, 5, 0), (0, 0, 0)], [], [], (5, 0), true)], []), (108, [], []), (310, [], [])]
theorem tu_p350 : tk_ck tt_T tt_sc tt_nt (tu_K 350) tt_nw 8000 tu_t350 tu_k350 = true := by decide +kernel
def tu_t340 : List tk_I := [(222, [], []), (285, [], []), (289, [], []), (237, [], []), (74, [], [])]
theorem tu_p340 : tk_ck tt_T tt_sc tt_nt (tu_K 340) tt_nw 8000 tu_t340 tu_k340 = true := by decide +kernel
def tu_t222 : List tk_I := [(74, [], []), (75, [], [((24, 1, 0), (1, 0, 1)), ((24, 1, 0), (1, 0, 2))]), (74, [], []), (74, [], []), (74, [], [])]
theorem tu_p222 : tk_ck tt_T tt_sc tt_nt (tu_K 222) tt_nw 8000 tu_t222 tu_k222 = true := by decide +kernel
def tu_t223 : List tk_I := [(74, [], []), (75, [], [((24, 1, 0), (1, 0, 1)), ((24, 1, 0), (1, 0, 2))]), (74, [], []), (74, [], []), (74, [], [])]
theorem tu_p223 : tk_ck tt_T tt_sc tt_nt (tu_K 223) tt_nw 8000 tu_t223 tu_k223 = true := by decide +kernel
def tu_t224 : List tk_I := [(74, [], []), (75, [], [((24, 1, 0), (1, 0, 1)), ((24, 1, 0), (1, 0, 2))]), (74, [], []), (74, [], []), (74, [], [])]
theorem tu_p224 : tk_ck tt_T tt_sc tt_nt (tu_K 224) tt_nw 8000 tu_t224 tu_k224 = true := by decide +kernel
def tu_t225 : List tk_I := [(74, [], []), (75, [], [((24, 1, 0), (1, 0, 1)), ((24, 1, 0), (1, 0, 2))]), (74, [], []), (74, [], []), (74, [], [])]
theorem tu_p225 : tk_ck tt_T tt_sc tt_nt (tu_K 225) tt_nw 8000 tu_t225 tu_k225 = true := by decide +kernel
def tu_t226 : List tk_I := [(74, [], []), (75, [], [((24, 1, 0), (1, 0, 1)), ((24, 1, 0), (1, 0, 2))]), (74, [], []), (74, [], []), (74, [], [])]
theorem tu_p226 : tk_ck tt_T tt_sc tt_nt (tu_K 226) tt_nw 8000 tu_t226 tu_k226 = true := by decide +kernel
def tu_t227 : List tk_I := [(74, [], []), (75, [], [((24, 1, 0), (1, 0, 1)), ((24, 1, 0), (1, 0, 2))]), (74, [], []), (74, [], []), (74, [], [])]
theorem tu_p227 : tk_ck tt_T tt_sc tt_nt (tu_K 227) tt_nw 8000 tu_t227 tu_k227 = true := by decide +kernel
def tu_t229 : List tk_I := [(74, [], []), (75, [], [((24, 1, 0), (1, 0, 1)), ((24, 1, 0), (1, 0, 2))]), (74, [], []), (74, [], []), (74, [], [])]
theorem tu_p229 : tk_ck tt_T tt_sc tt_nt (tu_K 229) tt_nw 8000 tu_t229 tu_k229 = true := by decide +kernel
def tu_t230 : List tk_I := [(74, [], []), (75, [], [((24, 1, 0), (1, 0, 1)), ((24, 1, 0), (1, 0, 2))]), (74, [], []), (74, [], []), (74, [], [])]
theorem tu_p230 : tk_ck tt_T tt_sc tt_nt (tu_K 230) tt_nw 8000 tu_t230 tu_k230 = true := by decide +kernel
def tu_t231 : List tk_I := [(74, [], []), (75, [], [((24, 1, 0), (1, 0, 1)), ((24, 1, 0), (1, 0, 2))]), (74, [], []), (74, [], []), (74, [], [])]
theorem tu_p231 : tk_ck tt_T tt_sc tt_nt (tu_K 231) tt_nw 8000 tu_t231 tu_k231 = true := by decide +kernel
def tu_t232 : List tk_I := [(74, [], []), (75, [], [((24, 1, 0), (1, 0, 1)), ((24, 1, 0), (1, 0, 2))]), (74, [], []), (74, [], []), (74, [], [])]
theorem tu_p232 : tk_ck tt_T tt_sc tt_nt (tu_K 232) tt_nw 8000 tu_t232 tu_k232 = true := by decide +kernel
def tu_t233 : List tk_I := [(74, [], []), (75, [], [((24, 1, 0), (1, 0, 1)), ((24, 1, 0), (1, 0, 2))]), (74, [], []), (74, [], []), (74, [], [])]
theorem tu_p233 : tk_ck tt_T tt_sc tt_nt (tu_K 233) tt_nw 8000 tu_t233 tu_k233 = true := by decide +kernel
def tu_t234 : List tk_I := [(74, [], []), (75, [], [((24, 1, 0), (1, 0, 1)), ((24, 1, 0), (1, 0, 2))]), (74, [], []), (74, [], []), (74, [], [])]
theorem tu_p234 : tk_ck tt_T tt_sc tt_nt (tu_K 234) tt_nw 8000 tu_t234 tu_k234 = true := by decide +kernel
def tu_t243 : List tk_I := [(124, [], [])]
theorem tu_p243 : tk_ck tt_T tt_sc tt_nt (tu_K 243) tt_nw 8000 tu_t243 tu_k243 = true := by decide +kernel
def tu_t220 : List tk_I := [(74, [], []), (75, [], [((24, 1, 0), (1, 0, 1)), ((24, 1, 0), (1, 0, 2))]), (74, [], []), (74, [], []), (74, [], [])]
theorem tu_p220 : tk_ck tt_T tt_sc tt_nt (tu_K 220) tt_nw 8000 tu_t220 tu_k220 = true := by decide +kernel
def tu_t221 : List tk_I := [(74, [], []), (75, [], [((24, 1, 0), (1, 0, 1)), ((24, 1, 0), (1, 0, 2))]), (74, [], []), (74, [], []), (74, [], [])]
theorem tu_p221 : tk_ck tt_T tt_sc tt_nt (tu_K 221) tt_nw 8000 tu_t221 tu_k221 = true := by decide +kernel
def tu_t228 : List tk_I := [(74, [], []), (75, [], [((24, 1, 0), (1, 0, 1)), ((24, 1, 0), (1, 0, 2))]), (74, [], []), (74, [], []), (74, [], [])]
theorem tu_p228 : tk_ck tt_T tt_sc tt_nt (tu_K 228) tt_nw 8000 tu_t228 tu_k228 = true := by decide +kernel
def tu_t160 : List tk_I := [(1, [([(0, 6, 0, 0, 0, 0)], [(53, 1, 0), (1, 2, 0), (1, 3, 0), (1, 4, 0)], [], [], (4, 0), true)], []), (0, [], [])]
theorem tu_p160 : tk_ck tt_T tt_sc tt_nt (tu_K 160) tt_nw 8000 tu_t160 tu_k160 = true := by decide +kernel
def tu_t324 : List tk_I := [(0, [], []), (0, [], []), (238, [], [])]
theorem tu_p324 : tk_ck tt_T tt_sc tt_nt (tu_K 324) tt_nw 8000 tu_t324 tu_k324 = true := by decide +kernel
def tu_t250 : List tk_I := [(0, [], []), (0, [], []), (122, [], [])]
theorem tu_p250 : tk_ck tt_T tt_sc tt_nt (tu_K 250) tt_nw 8000 tu_t250 tu_k250 = true := by decide +kernel
def tu_t116 : List tk_I := [(1, [([((-1), 40, 0, 0, 0, 0), ((-1), 40, 0, 0, 0, 0), (1, 41, 0, 0, 0, 0)], [(38, 1, 0), (1, 2, 0), (1, 3, 0), (1, 4, 0), (1, 5, 0)], [], [], (5, 0), true)], [])]
theorem tu_p116 : tk_ck tt_T tt_sc tt_nt (tu_K 116) tt_nw 8000 tu_t116 tu_k116 = true := by decide +kernel
def tu_t334 : List tk_I := [(0, [], []), (0, [], []), (1, [([((-1), 11, 0, 0, 0, 0), (0, 2147483647, 0, 0, 0, 0), (0, 12, 0, 0, 0, 0)], [(53, 1, 0), (1, 2, 0), (1, 3, 0), (1, 4, 0), (1, 5, 0), (0, 0, 0)], [], [((53, 1, 0), (1, 0, 0), (1, 0, 0))], (5, 0), true)], []), (279, [], [])]
theorem tu_p334 : tk_ck tt_T tt_sc tt_nt (tu_K 334) tt_nw 8000 tu_t334 tu_k334 = true := by decide +kernel
def tu_t425 : List tk_I := [(0, [], []), (0, [], []), (411, [], []), (173, [], [])]
theorem tu_p425 : tk_ck tt_T tt_sc tt_nt (tu_K 425) tt_nw 8000 tu_t425 tu_k425 = true := by decide +kernel
def tu_t354 : List tk_I := [(0, [], []), (1, [([((-1), 2147483647, 0, 0, 0, 0), (0, 7, 0, 0, 0, 0)], [(10, 1, 0), (1, 2, 0), (1, 3, 0), (1, 7, 0), (1, 8, 0)], [], [((17, 4, 0), (1, 0, 1), (1, 5, 0)), ((10, 1, 0), (1, 0, 2), (17, 4, 0))], (8, 0), true)], []), (316, [], [])]
theorem tu_p354 : tk_ck tt_T tt_sc tt_nt (tu_K 354) tt_nw 8000 tu_t354 tu_k354 = true := by decide +kernel
def tu_t272 : List tk_I := [(0, [], []), (0, [], []), (177, [], [])]
theorem tu_p272 : tk_ck tt_T tt_sc tt_nt (tu_K 272) tt_nw 8000 tu_t272 tu_k272 = true := by decide +kernel
def tu_t329 : List tk_I := [(1, [([((-2147483648), 2147483647, 0, 0, 0, 0), (0, 119, 0, 0, 0, 0), (1, 120, 0, 0, 0, 0)], [(53, 1, 0), (1, 2, 0), (1, 3, 0), (1, 4, 0), (1, 5, 0), (1, 6, 0), (1, 7, 0)], [], [], (7, 0), true)], []), (0, [], []), (271, [], [])]
theorem tu_p329 : tk_ck tt_T tt_sc tt_nt (tu_K 329) tt_nw 8000 tu_t329 tu_k329 = true := by decide +kernel
def tu_t401 : List tk_I := [(263, [], []), (363, [], []), (371, [], [((1, 19, 0), (1, 3, 0))])]
theorem tu_p401 : tk_ck tt_T tt_sc tt_nt (tu_K 401) tt_nw 8000 tu_t401 tu_k401 = true := by decide +kernel
