def tu_t260 : List tk_I := [(226, [], [])]
theorem tu_p260 : tk_ck tt_T tt_sc tt_nt (tu_K 260) tt_nw 8000 tu_t260 tu_k260 = true := by decide +kernel
def tu_t286 : List tk_I := [(272, [], []), (188, [], [])]
theorem tu_p286 : tk_ck tt_T tt_sc tt_nt (tu_K 286) tt_nw 8000 tu_t286 tu_k286 = true := by decide +kernel
def tu_t107 : List tk_I := [(0, [], [])]
theorem tu_p107 : tk_ck tt_T tt_sc tt_nt (tu_K 107) tt_nw 8000 tu_t107 tu_k107 = true := by decide +kernel
def tu_t98 : List tk_I := []
theorem tu_p98 : tk_ck tt_T tt_sc tt_nt (tu_K 98) tt_nw 8000 tu_t98 tu_k98 = true := by decide +kernel
def tu_t153 : List tk_I := []
theorem tu_p153 : tk_ck tt_T tt_sc tt_nt (tu_K 153) tt_nw 8000 tu_t153 tu_k153 = true := by decide +kernel
def tu_t79 : List tk_I := []
theorem tu_p79 : tk_ck tt_T tt_sc tt_nt (tu_K 79) tt_nw 8000 tu_t79 tu_k79 = true := by decide +kernel
def tu_t270 : List tk_I := [(131, [], []), (1, [([(0, 730, 0, 0, 0, 0)], [(53, 1, 0), (1, 2, 0), (1, 3, 0)], [], [], (3, 0), true)], []), (255, [], [])]
theorem tu_p270 : tk_ck tt_T tt_sc tt_nt (tu_K 270) tt_nw 8000 tu_t270 tu_k270 = true := by decide +kernel
def tu_t162 : List tk_I := [(94, [], [])]
theorem tu_p162 : tk_ck tt_T tt_sc tt_nt (tu_K 162) tt_nw 8000 tu_t162 tu_k162 = true := by decide +kernel
def tu_t186 : List tk_I := [(129, [], []), (130, [], [])]
theorem tu_p186 : tk_ck tt_T tt_sc tt_nt (tu_K 186) tt_nw 8000 tu_t186 tu_k186 = true := by decide +kernel
def tu_t154 : List tk_I := [(150, [], [])]
theorem tu_p154 : tk_ck tt_T tt_sc tt_nt (tu_K 154) tt_nw 8000 tu_t154 tu_k154 = true := by decide +kernel
def tu_t108 : List tk_I := [(0, [], [])]
theorem tu_p108 : tk_ck tt_T tt_sc tt_nt (tu_K 108) tt_nw 8000 tu_t108 tu_k108 = true := by decide +kernel
def tu_t148 : List tk_I := [(1, [([(0, 60, 0, 0, 0, 0)], [(52, 1, 0), (2, 2, 0), (0, 0, 0), (1, 3, 0), (1, 0, 60)], [], [], (3, 0), true)], [])]
theorem tu_p148 : tk_ck tt_T tt_sc tt_nt (tu_K 148) tt_nw 8000 tu_t148 tu_k148 = true := by decide +kernel
def tu_t149 : List tk_I := [(1, [([(0, 36, 0, 0, 0, 0)], [(35, 1, 0), (1, 2, 0), (1, 3, 0), (1, 0, 36)], [], [], (3, 0), true)], [])]
theorem tu_p149 : tk_ck tt_T tt_sc tt_nt (tu_K 149) tt_nw 8000 tu_t149 tu_k149 = true := by decide +kernel
def tu_t150 : List tk_I := [(1, [([(0, 730, 0, 0, 0, 0)], [(33, 1, 0), (1, 2, 0), (1, 3, 0), (1, 0, 730)], [], [], (3, 0), true)], [])]
theorem tu_p150 : tk_ck tt_T tt_sc tt_nt (tu_K 150) tt_nw 8000 tu_t150 tu_k150 = true := by decide +kernel
def tu_t97 : List tk_I := []
theorem tu_p97 : tk_ck tt_T tt_sc tt_nt (tu_K 97) tt_nw 8000 tu_t97 tu_k97 = true := by decide +kernel
def tu_t135 : List tk_I := [(1, [([((-2147483648), 2147483647, 0, 0, 0, 0), (0, 127, 0, 0, 0, 0)], [(1, 1, 0), (1, 2, 0), (1, 3, 0)], [], [], (3, 0), false)], [])]
theorem tu_p135 : tk_ck tt_T tt_sc tt_nt (tu_K 135) tt_nw 8000 tu_t135 tu_k135 = true := by decide +kernel
def tu_t266 : List tk_I := [(237, [], []), (0, [], [])]
theorem tu_p266 : tk_ck tt_T tt_sc tt_nt (tu_K 266) tt_nw 8000 tu_t266 tu_k266 = true := by decide +kernel
def tu_t70 : List tk_I := []
theorem tu_p70 : tk_ck tt_T tt_sc tt_nt (tu_K 70) tt_nw 8000 tu_t70 tu_k70 = true := by decide +kernel
def tu_t188 : List tk_I := [(129, [], []), (130, [], [])]
theorem tu_p188 : tk_ck tt_T tt_sc tt_nt (tu_K 188) tt_nw 8000 tu_t188 tu_k188 = true := by decide +kernel
def tu_t128 : List tk_I := []
theorem tu_p128 : tk_ck tt_T tt_sc tt_nt (tu_K 128) tt_nw 8000 tu_t128 tu_k128 = true := by decide +kernel
def tu_t280 : List tk_I := [(262, [], []), (262, [], [])]
theorem tu_p280 : tk_ck tt_T tt_sc tt_nt (tu_K 280) tt_nw 8000 tu_t280 tu_k280 = true := by decide +kernel
def tu_t141 : List tk_I := []
theorem tu_p141 : tk_ck tt_T tt_sc tt_nt (tu_K 141) tt_nw 8000 tu_t141 tu_k141 = true := by decide +kernel
def tu_t203 : List tk_I := [(77, [], []), (78, [], []), (168, [], [])]
theorem tu_p203 : tk_ck tt_T tt_sc tt_nt (tu_K 203) tt_nw 8000 tu_t203 tu_k203 = true := by decide +kernel
def tu_t227 : List tk_I := [(1, [([((-2147483648), 2147483647, 0, 0, 0, 0), (0, 730, 0, 0, 0, 0)], [(53, 1, 0), (1, 2, 0), (1, 3, 0), (1, 4, 0), (1, 5, 0), (1, 6, 0)], [], [], (6, 0), true)], []), (187, [], [])]
theorem tu_p227 : tk_ck tt_T tt_sc tt_nt (tu_K 227) tt_nw 8000 tu_t227 tu_k227 = true := by decide +kernel
def tu_t144 : List tk_I := [(0, [], [])]
theorem tu_p144 : tk_ck tt_T tt_sc tt_nt (tu_K 144) tt_nw 8000 tu_t144 tu_k144 = true := by decide +kernel
def tu_t155 : List tk_I := [(1, [([(0, 1094, 0, 0, 0, 0)], [(31, 1, 0), (1, 2, 0)], [], [], (2, 0), true)], []), (81, [], []), (81, [], []), (81, [], [])]
theorem tu_p155 : tk_ck tt_T tt_sc tt_nt (tu_K 155) tt_nw 8000 tu_t155 tu_k155 = true := by decide +kernel
def tu_t78 : List tk_I := []
theorem tu_p78 : tk_ck tt_T tt_sc tt_nt (tu_K 78) tt_nw 8000 tu_t78 tu_k78 = true := by decide +kernel
def tu_t104 : List tk_I := [(1, [([(0, 6, 0, 0, 0, 0)], [(10, 1, 0), (1, 2, 0), (1, 3, 0), (1, 4, 0)], [], [], (4, 0), true)], [])]
theorem tu_p104 : tk_ck tt_T tt_sc tt_nt (tu_K 104) tt_nw 8000 tu_t104 tu_k104 = true := by decide +kernel
def tu_t288 : List tk_I := [(276, [], []), (1, [([(0, 12, 0, 0, 0, 0)], [(53, 1, 0), (1, 2, 0)], [], [], (2, 0), true)], [])]
theorem tu_p288 : tk_ck tt_T tt_sc tt_nt (tu_K 288) tt_nw 8000 tu_t288 tu_k288 = true := by decide +kernel
def tu_t86 : List tk_I := []
theorem tu_p86 : tk_ck tt_T tt_sc tt_nt (tu_K 86) tt_nw 8000 tu_t86 tu_k86 = true := by decide +kernel
def tu_t173 : List tk_I := [(1, [([((-2147483648), 2147483647, 0, 0, 0, 0), (0, 730, 0, 0, 0, 0)], [(10, 1, 0), (1, 2, 0), (1, 3, 0), (1, 4, 0), (1, 5, 0), (1, 6, 0)], [], [], (6, 0), true)], []), (91, [], [])]
theorem tu_p173 : tk_ck tt_T tt_sc tt_nt (tu_K 173) tt_nw 8000 tu_t173 tu_k173 = true := by decide +kernel
def tu_t93 : List tk_I := [(1, [([(1, 12, 0, 0, 0, 0)], [(17, 1, 0), (1, 2, 0), (1, 3, 0)], [], [], (3, 0), true)], [])]
theorem tu_p93 : tk_ck tt_T tt_sc tt_nt (tu_K 93) tt_nw 8000 tu_t93 tu_k93 = true := by decide +kernel
def tu_t147 : List tk_I := []
theorem tu_p147 : tk_ck tt_T tt_sc tt_nt (tu_K 147) tt_nw 8000 tu_t147 tu_k147 = true := by decide +kernel
def tu_t116 : List tk_I := []
theorem tu_p116 : tk_ck tt_T tt_sc tt_nt (tu_K 116) tt_nw 8000 tu_t116 tu_k116 = true := by decide +kernel
def tu_t115 : List tk_I := []
theorem tu_p115 : tk_ck tt_T tt_sc tt_nt (tu_K 115) tt_nw 8000 tu_t115 tu_k115 = true := by decide +kernel
def tu_t73 : List tk_I := [(1, [([((-1), 119, 0, 0, 0, 0)], [(26, 1, 0), (1, 2, 0), (1, 4, 0)], [], [((26, 1, 0), (1, 0, 4), (1, 3, 0))], (4, 0), false)], [])]
theorem tu_p73 : tk_ck tt_T tt_sc tt_nt (tu_K 73) tt_nw 8000 tu_t73 tu_k73 = true := by decide +kernel
def tu_t145 : List tk_I := [(0, [], [])]
theorem tu_p145 : tk_ck tt_T tt_sc tt_nt (tu_K 145) tt_nw 8000 tu_t145 tu_k145 = true := by decide +kernel
def tu_t106 : List tk_I := [(1, [([((-2147483648), 2147483647, 0, 0, 0, 0), (0, 4, 0, 0, 0, 0)], [(10, 1, 0), (1, 2, 0), (1, 3, 0)], [], [], (3, 0), true)], [])]
theorem tu_p106 : tk_ck tt_T tt_sc tt_nt (tu_K 106) tt_nw 8000 tu_t106 tu_k106 = true := by decide +kernel
def tu_t88 : List tk_I := [(1, [([(0, 2, 0, 0, 0, 0)], [(17, 1, 0), (1, 2, 0)], [], [((17, 1, 0), (1, 0, 9), (1, 0, 0)), ((17, 1, 0), (1, 0, 7), (1, 0, 0)), ((17, 1, 0), (1, 0, 5), (1, 0, 0)), ((17, 1, 0), (1, 0, 3), (1, 0, 0)), ((17, 1, 0), (1, 0, 1), (1, 0, 0))], (2, 0), true)], [])]
theorem tu_p88 : tk_ck tt_T tt_sc tt_nt (tu_K 88) tt_nw 8000 tu_t88 tu_k88 = true := by decide +kernel
def tu_t200 : List tk_I := [(1, [([(0, 2147483647, 0, 0, 0, 0), (0, 13, 0, 0, 0, 0)], [(38, 1, 0), (21, 2, 0), (31, 3, 0), (1, 4, 0), (1, 5, 0)], [], [], (5, 0), true)], []), (159, [], [])]
theorem tu_p200 : tk_ck tt_T tt_sc tt_nt (tu_K 200) tt_nw 8000 tu_t200 tu_k200 = true := by decide +kernel
def tu_t77 : List tk_I := [(1, [([(0, 120, 0, 0, 0, 0)], [(26, 1, 0), (1, 2, 0), (1, 3, 0), (1, 4, 0)], [], [], (4, 0), true)], [])]
theorem tu_p77 : tk_ck tt_T tt_sc tt_nt (tu_K 77) tt_nw 8000 tu_t77 tu_k77 = true := by decide +kernel
def tu_t238 : List tk_I := [(0, [], []), (207, [], [])]
theorem tu_p238 : tk_ck tt_T tt_sc tt_nt (tu_K 238) tt_nw 8000 tu_t238 tu_k238 = true := by decide +kernel
def tu_t239 : List tk_I := [(1, [([((-2147483648), 2147483647, 0, 0, 0, 0), (0, 12, 0, 0, 0, 0)], [(10, 1, 0), (1, 2, 0), (1, 3, 0), (0, 0, 0)], [], [], (3, 0), true)], []), (207, [], [])]
theorem tu_p239 : tk_ck tt_T tt_sc tt_nt (tu_K 239) tt_nw 8000 tu_t239 tu_k239 = true := by decide +kernel
def tu_t192 : List tk_I := [(128, [], [])]
theorem tu_p192 : tk_ck tt_T tt_sc tt_nt (tu_K 192) tt_nw 8000 tu_t192 tu_k192 = true := by decide +kernel
def tu_t101 : List tk_I := [(0, [], [])]
theorem tu_p101 : tk_ck tt_T tt_sc tt_nt (tu_K 101) tt_nw 8000 tu_t101 tu_k101 = true := by decide +kernel
def tu_t216 : List tk_I := [(0, [], []), (175, [], [])]
theorem tu_p216 : tk_ck tt_T tt_sc tt_nt (tu_K 216) tt_nw 8000 tu_t216 tu_k216 = true := by decide +kernel
def tu_t219 : List tk_I := [(176, [], []), (1, [([((-2147483648), 2147483647, 0, 0, 0, 0)], [(10, 1, 0), (1, 2, 0), (1, 3, 0), (1, 4, 0)], [(1, 5, 0)], [], (0, 0), true)], []), (1, [([(0, 2147483647, 0, 0, 0, 0)], [(10, 1, 0), (1, 2, 0), (1, 3, 0), (1, 4, 0)], [(1, 5, 0)], [], (0, 0), true)], [])]
theorem tu_p219 : tk_ck tt_T tt_sc tt_nt (tu_K 219) tt_nw 8000 tu_t219 tu_k219 = true := by decide +kernel
def tu_t140 : List tk_I := [(1, [([(0, 120, 0, 0, 0, 0)], [(53, 1, 0), (1, 2, 0), (1, 3, 0), (1, 4, 0)], [], [], (4, 0), true)], [])]
theorem tu_p140 : tk_ck tt_T tt_sc tt_nt (tu_K 140) tt_nw 8000 tu_t140 tu_k140 = true := by decide +kernel
def tu_t95 : List tk_I := [(1, [([(1, 4096, 0, 0, 0, 0)], [(43, 1, 0), (47, 2, 0), (48, 3, 0), (1, 4, 0), (1, 5, 0)], [], [], (5, 0), true)], []), (37, [], [])]
theorem tu_p95 : tk_ck tt_T tt_sc tt_nt (tu_K 95) tt_nw 8000 tu_t95 tu_k95 = true := by decide +kernel
def tu_t214 : List tk_I := [(1, [([((-2147483648), 2147483647, 0, 0, 0, 0), (0, 12, 0, 0, 0, 0)], [(10, 1, 0), (1, 2, 0), (1, 3, 0), (1, 4, 0), (1, 5, 0)], [], [], (5, 0), true)], []), (163, [], []), (1, [([((-2147483648), 9999, 0, 0, 0, 0)], [(10, 1, 0), (1, 2, 0), (1, 3, 0), (1, 4, 0), (1, 5, 0)], [(1, 10, 0), (1, 4, 0)], [((17, 6, 0), (1, 0, 1), (1, 7, 0)), ((10, 1, 0), (1, 0, 2), (17, 6, 0))], (0, 0), true)], [])]
theorem tu_p214 : tk_ck tt_T tt_sc tt_nt (tu_K 214) tt_nw 8000 tu_t214 tu_k214 = true := by decide +kernel
def tu_t85 : List tk_I := []
theorem tu_p85 : tk_ck tt_T tt_sc tt_nt (tu_K 85) tt_nw 8000 tu_t85 tu_k85 = true := by decide +kernel
def tu_t129 : List tk_I := [(1, [([(0, 12, 0, 0, 0, 0)], [(53, 1, 0), (1, 2, 0), (0, 0, 0)], [], [], (2, 0), true)], []), (1, [([(0, 7, 0, 0, 0, 0)], [(53, 1, 0), (1, 2, 0), (1, 6, 0)], [], [((53, 1, 0), (1, 0, 17), (60, 3, 0))], (6, 0), true)], [])]
theorem tu_p129 : tk_ck tt_T tt_sc tt_nt (tu_K 129) tt_nw 8000 tu_t129 tu_k129 = true := by decide +kernel
def tu_t204 : List tk_I := [(78, [], []), (77, [], []), (168, [], [])]
theorem tu_p204 : tk_ck tt_T tt_sc tt_nt (tu_K 204) tt_nw 8000 tu_t204 tu_k204 = true := by decide +kernel
def tu_t137 : List tk_I := [(0, [], []), (0, [], [])]
theorem tu_p137 : tk_ck tt_T tt_sc tt_nt (tu_K 137) tt_nw 8000 tu_t137 tu_k137 = true := by decide +kernel
def tu_t114 : List tk_I := [(0, [], [])]
theorem tu_p114 : tk_ck tt_T tt_sc tt_nt (tu_K 114) tt_nw 8000 tu_t114 tu_k114 = true := by decide +kernel
def tu_t84 : List tk_I := []
theorem tu_p84 : tk_ck tt_T tt_sc tt_nt (tu_K 84) tt_nw 8000 tu_t84 tu_k84 = true := by decide +kernel
def tu_t92 : List tk_I := [(1, [([(0, 4095, 0, 0, 0, 0), ((-1), 11, 0, 0, 0, 0), (0, 12, 0, 0, 0, 0)], [(17, 1, 0), (1, 2, 0), (1, 6, 0), (1, 7, 0), (1, 8, 0)], [], [((21, 4, 0), (1, 0, 0), (1, 5, 0)), ((18, 3, 0), (1, 2, 0), (21, 4, 0)), ((17, 1, 0), (1, 0, 0), (18, 3, 0))], (8, 0), true)], [])]
theorem tu_p92 : tk_ck tt_T tt_sc tt_nt (tu_K 92) tt_nw 8000 tu_t92 tu_k92 = true := by decide +kernel
def tu_t100 : List tk_I := [(70, [], [])]
theorem tu_p100 : tk_ck tt_T tt_sc tt_nt (tu_K 100) tt_nw 8000 tu_t100 tu_k100 = true := by decide +kernel
def tu_t87 : List tk_I := [(1, [([((-2147483648), 2147483647, 0, 0, 0, 0)], [(23, 1, 0), (1, 2, 0), (0, 0, 0), (0, 0, 0)], [(1, 4, 0)], [((23, 1, 0), (1, 0, 3), (1, 3, 0))], (0, 0), true)], [])]
theorem tu_p87 : tk_ck tt_T tt_sc tt_nt (tu_K 87) tt_nw 8000 tu_t87 tu_k87 = true := by decide +kernel
def tu_t89 : List tk_I := [(1, [([(0, 6, 0, 0, 0, 0)], [(17, 1, 0), (1, 2, 0), (1, 3, 0), (1, 4, 0), (0, 0, 0)], [], [], (4, 0), true)], [])]
theorem tu_p89 : tk_ck tt_T tt_sc tt_nt (tu_K 89) tt_nw 8000 tu_t89 tu_k89 = true := by decide +kernel
def tu_t284 : List tk_I := [(0, [], []), (267, [], []), (85, [], [])]
theorem tu_p284 : tk_ck tt_T tt_sc tt_nt (tu_K 284) tt_nw 8000 tu_t284 tu_k284 = true := by decide +kernel
def tu_t72 : List tk_I := []
theorem tu_p72 : tk_ck tt_T tt_sc tt_nt (tu_K 72) tt_nw 8000 tu_t72 tu_k72 = true := by decide +kernel
def tu_t241 : List tk_I := [(0, [], []), (207, [], []), (148, [], [])]
theorem tu_p241 : tk_ck tt_T tt_sc tt_nt (tu_K 241) tt_nw 8000 tu_t241 tu_k241 = true := by decide +kernel
def tu_t295 : List tk_I := [(290, [], []), (1, [([((-2147483648), 2147483647, 0, 0, 0, 0), (0, 12, 0, 0, 0, 0)], [(53, 1, 0), (1, 3, 0), (1, 4, 0)], [], [((53, 1, 0), (1, 0, 0), (1, 0, 0))], (4, 0), true)], [])]
theorem tu_p295 : tk_ck tt_T tt_sc tt_nt (tu_K 295) tt_nw 8000 tu_t295 tu_k295 = true := by decide +kernel
def tu_t102 : List tk_I := []
theorem tu_p102 : tk_ck tt_T tt_sc tt_nt (tu_K 102) tt_nw 8000 tu_t102 tu_k102 = true := by decide +kernel
def tu_t240 : List tk_I := [(1, [([((-2147483648), 1000000, 0, 0, 0, 0), (0, 12, 0, 0, 0, 0)], [(10, 1, 0), (1, 2, 0), (1, 3, 0), (0, 0, 0)], [], [], (3, 0), true)], []), (207, [], []), (148, [], []), (1, [([((-2147483648), 1000000, 0, 0, 0, 0)], [(10, 1, 0), (1, 2, 0), (1, 3, 0), (1, 7, 0)], [(1, 11, 0)], [((17, 4, 0), (1, 0, 1), (1, 5, 0)), ((10, 1, 0), (1, 0, 2), (17, 4, 0))], (0, 0), true)], [])]
theorem tu_p240 : tk_ck tt_T tt_sc tt_nt (tu_K 240) tt_nw 8000 tu_t240 tu_k240 = true := by decide +kernel
def tu_t94 : List tk_I := [(1, [([(0, 99, 0, 0, 0, 0)], [(17, 1, 0), (1, 2, 0), (1, 3, 0)], [(1, 10, 0)], [((21, 7, 0), (1, 0, 7), (1, 8, 0)), ((18, 4, 0), (1, 3, 0), (21, 7, 0)), ((21, 5, 0), (1, 0, 7), (1, 6, 0)), ((18, 4, 0), (1, 2, 0), (21, 5, 0)), ((17, 1, 0), (1, 0, 0), (18, 4, 0))], (0, 0), true)], []), (1, [([(0, 99, 0, 0, 0, 0)], [(17, 1, 0), (1, 2, 0), (1, 3, 0)], [(1, 14, 0), (1, 10, 0)], [((21, 7, 0), (1, 0, 8), (1, 12, 0)), ((21, 5, 0), (1, 0, 8), (1, 11, 0)), ((21, 7, 0), (1, 0, 7), (1, 8, 0)), ((18, 4, 0), (1, 3, 0), (21, 7, 0)), ((21, 5, 0), (1, 0, 7), (1, 6, 0)), ((18, 4, 0), (1, 2, 0), (21, 5, 0)), ((17, 1, 0), (1, 0, 0), (18, 4, 0))], (0, 0), true)], [])]
theorem tu_p94 : tk_ck tt_T tt_sc tt_nt (tu_K 94) tt_nw 8000 tu_t94 tu_k94 = true := by decide +kernel
def tu_t91 : List tk_I := [(1, [([((-2147483648), 2147483647, 0, 0, 0, 0), (0, 6, 0, 0, 0, 0)], [(17, 1, 0), (1, 2, 0), (1, 3, 0), (1, 4, 0), (1, 5, 0)], [], [], (5, 0), true)], [])]
theorem tu_p91 : tk_ck tt_T tt_sc tt_nt (tu_K 91) tt_nw 8000 tu_t91 tu_k91 = true := by decide +kernel
def tu_t90 : List tk_I := [(1, [([((-2147483648), 2147483647, 0, 0, 0, 0), (0, 6, 0, 0, 0, 0)], [(17, 1, 0), (1, 2, 0), (1, 3, 0), (1, 4, 0), (1, 5, 0)], [], [], (5, 0), true)], [])]
theorem tu_p90 : tk_ck tt_T tt_sc tt_nt (tu_K 90) tt_nw 8000 tu_t90 tu_k90 = true := by decide +kernel
def tu_t209 : List tk_I := [(1, [([((-2147483648), 2147483647, 0, 0, 0, 0), (0, 6, 0, 0, 0, 0)], [(10, 1, 0), (1, 2, 0), (1, 3, 0), (1, 4, 0), (1, 5, 0), (0, 0, 0)], [], [], (5, 0), true)], []), (164, [], [])]
theorem tu_p209 : tk_ck tt_T tt_sc tt_nt (tu_K 209) tt_nw 8000 tu_t209 tu_k209 = true := by decide +kernel
def tu_t132 : List tk_I := [(0, [], [])]
theorem tu_p132 : tk_ck tt_T tt_sc tt_nt (tu_K 132) tt_nw 8000 tu_t132 tu_k132 = true := by decide +kernel
def tu_t172 : List tk_I := [(1, [([((-2147483648), 2147483647, 0, 0, 0, 0), (0, 6, 0, 0, 0, 0)], [(10, 1, 0), (1, 2, 0), (1, 3, 0), (1, 4, 0), (1, 5, 0), (0, 0, 0)], [], [], (5, 0), true)], []), (96, [], [])]
theorem tu_p172 : tk_ck tt_T tt_sc tt_nt (tu_K 172) tt_nw 8000 tu_t172 tu_k172 = true := by decide +kernel
def tu_t146 : List tk_I := []
theorem tu_p146 : tk_ck tt_T tt_sc tt_nt (tu_K 146) tt_nw 8000 tu_t146 tu_k146 = true := by decide +kernel
def tu_t287 : List tk_I := [(0, [], []), (0, [], []), (276, [], [])]
theorem tu_p287 : tk_ck tt_T tt_sc tt_nt (tu_K 287) tt_nw 8000 tu_t287 tu_k287 = true := by decide +kernel
def tu_t235 : List tk_I := [(152, [], []), (157, [], []), (158, [], []), (82, [], []), (1, [([(0, 12, 0, 0, 0, 0)], [(31, 1, 0), (17, 2, 0), (1, 4, 0)], [], [((31, 1, 0), (1, 0, 2), (33, 3, 0))], (4, 0), true)], []), (1, [([((-1), 11, 0, 0, 0, 0)], [(31, 1, 0), (17, 2, 0), (1, 7, 0)], [], [((17, 2, 0), (1, 0, 1), (1, 5, 0)), ((31, 1, 0), (1, 0, 2), (33, 3, 0))], (7, 0), false)], []), (201, [], []), (151, [], []), (151, [], [])]
theorem tu_p235 : tk_ck tt_T tt_sc tt_nt (tu_K 235) tt_nw 8000 tu_t235 tu_k235 = true := by decide +kernel
def tu_t253 : List tk_I := [(226, [], []), (1, [([(0, 12, 0, 0, 0, 0)], [(53, 1, 0), (1, 2, 0), (1, 3, 0), (0, 0, 0)], [], [], (3, 0), true)], []), (1, [([(0, 7, 0, 0, 0, 0)], [(53, 1, 0), (1, 2, 0), (1, 3, 0), (1, 7, 0)], [], [((53, 1, 0), (1, 0, 17), (60, 4, 0))], (7, 0), true)], []), (128, [], [])]
theorem tu_p253 : tk_ck tt_T tt_sc tt_nt (tu_K 253) tt_nw 8000 tu_t253 tu_k253 = true := by decide +kernel
def tu_t205 : List tk_I := [(1, [([(0, 2147483647, 0, 0, 0, 0), (0, 7, 0, 0, 0, 0)], [(10, 1, 0), (1, 2, 0), (1, 3, 0), (1, 4, 0)], [], [], (4, 0), true)], []), (0, [], []), (161, [], []), (169, [], [])]
theorem tu_p205 : tk_ck tt_T tt_sc tt_nt (tu_K 205) tt_nw 8000 tu_t205 tu_k205 = true := by decide +kernel
def tu_t126 : List tk_I := []
theorem tu_p126 : tk_ck tt_T tt_sc tt_nt (tu_K 126) tt_nw 8000 tu_t126 tu_k126 = true := by decide +kernel
def tu_t196 : List tk_I := [(1, [([((-2147483648), 2147483647, 0, 0, 0, 0), (0, 6, 0, 0, 0, 0)], [(53, 1, 0), (1, 2, 0), (1, 3, 0), (1, 4, 0), (1, 5, 0)], [], [], (5, 0), true)], []), (140, [], [])]
theorem tu_p196 : tk_ck tt_T tt_sc tt_nt (tu_K 196) tt_nw 8000 tu_t196 tu_k196 = true := by decide +kernel
def tu_t283 : List tk_I := [(0, [], []), (267, [], [])]
theorem tu_p283 : tk_ck tt_T tt_sc tt_nt (tu_K 283) tt_nw 8000 tu_t283 tu_k283 = true := by decide +kernel
def tu_t236 : List tk_I := [(1, [([(1, 41, 0, 0, 0, 0)], [(38, 1, 0), (21, 2, 0), (31, 3, 0), (1, 4, 0), (1, 5, 0), (0, 0, 0)], [], [], (5, 0), true)], []), (161, [], []), (202, [], [])]
theorem tu_p236 : tk_ck tt_T tt_sc tt_nt (tu_K 236) tt_nw 8000 tu_t236 tu_k236 = true := by decide +kernel
def tu_t211 : List tk_I := [(0, [], []), (1, [([((-1), 11, 0, 0, 0, 0), (0, 2147483647, 0, 0, 0, 0), (0, 12, 0, 0, 0, 0)], [(10, 1, 0), (1, 2, 0), (1, 3, 0), (1, 4, 0), (1, 5, 0), (0, 0, 0)], [], [], (5, 0), true)], []), (174, [], [])]
theorem tu_p211 : tk_ck tt_T tt_sc tt_nt (tu_K 211) tt_nw 8000 tu_t211 tu_k211 = true := by decide +kernel
def tu_t249 : List tk_I := [(0, [], []), (1, [([((-1), 11, 0, 0, 0, 0), (0, 2147483647, 0, 0, 0, 0), (0, 12, 0, 0, 0, 0)], [(10, 1, 0), (1, 2, 0), (1, 3, 0), (1, 4, 0), (1, 5, 0), (0, 0, 0)], [], [], (5, 0), true)], []), (221, [], [])]
theorem tu_p249 : tk_ck tt_T tt_sc tt_nt (tu_K 249) tt_nw 8000 tu_t249 tu_k249 = true := by decide +kernel
def tu_t208 : List tk_I := [(0, [], []), (0, [], []), (173, [], [])]
theorem tu_p208 : tk_ck tt_T tt_sc tt_nt (tu_K 208) tt_nw 8000 tu_t208 tu_k208 = true := by decide +kernel
def tu_t210 : List tk_I := [(0, [], []), (0, [], []), (174, [], [])]
theorem tu_p210 : tk_ck tt_T tt_sc tt_nt (tu_K 210) tt_nw 8000 tu_t210 tu_k210 = true := by decide +kernel
def tu_t218 : List tk_I := [(0, [], []), (0, [], []), (176, [], [])]
theorem tu_p218 : tk_ck tt_T tt_sc tt_nt (tu_K 218) tt_nw 8000 tu_t218 tu_k218 = true := by decide +kernel
def tu_t243 : List tk_I := [(0, [], []), (0, [], []), (208, [], [])]
theorem tu_p243 : tk_ck tt_T tt_sc tt_nt (tu_K 243) tt_nw 8000 tu_t243 tu_k243 = true := by decide +kernel
def tu_t244 : List tk_I := [(0, [], []), (0, [], []), (211, [], [])]
theorem tu_p244 : tk_ck tt_T tt_sc tt_nt (tu_K 244) tt_nw 8000 tu_t244 tu_k244 = true := by decide +kernel
def tu_t229 : List tk_I := [(142, [], []), (142, [], []), (190, [], []), (141, [], [])]
theorem tu_p229 : tk_ck tt_T tt_sc tt_nt (tu_K 229) tt_nw 8000 tu_t229 tu_k229 = true := by decide +kernel
def tu_t193 : List tk_I := [(128, [], []), (128, [], [])]
theorem tu_p193 : tk_ck tt_T tt_sc tt_nt (tu_K 193) tt_nw 8000 tu_t193 tu_k193 = true := by decide +kernel
def tu_t138 : List tk_I := []
theorem tu_p138 : tk_ck tt_T tt_sc tt_nt (tu_K 138) tt_nw 8000 tu_t138 tu_k138 = true := by decide +kernel
def tu_t177 : List tk_I := [(0, [], []), (80, [], [])]
theorem tu_p177 : tk_ck tt_T tt_sc tt_nt (tu_K 177) tt_nw 8000 tu_t177 tu_k177 = true := by decide +kernel
def tu_t74 : List tk_I := [(1, [([(0, 120, 0, 0, 0, 0)], [(26, 1, 0), (1, 2, 0), (1, 3, 0), (1, 4, 0)], [], [], (4, 0), true)], []), (0, [], [])]
theorem tu_p74 : tk_ck tt_T tt_sc tt_nt (tu_K 74) tt_nw 8000 tu_t74 tu_k74 = true := by decide +kernel
def tu_t71 : List tk_I := []
theorem tu_p71 : tk_ck tt_T tt_sc tt_nt (tu_K 71) tt_nw 8000 tu_t71 tu_k71 = true := by decide +kernel
def tu_t296 : List tk_I := [(290, [], []), (1, [([((-9223372036854775808), 1000000, 0, 0, 0, 0), (0, 12, 0, 0, 0, 0)], [(53, 1, 0), (2, 3, 0), (0, 0, 0), (1, 4, 0)], [], [((53, 1, 0), (1, 0, 0), (1, 0, 0))], (4, 0), true)], []), (137, [], [])]
theorem tu_p296 : tk_ck tt_T tt_sc tt_nt (tu_K 296) tt_nw 8000 tu_t296 tu_k296 = true := by decide +kernel
def tu_t185 : List tk_I := [(126, [], []), (0, [], []), (0, [], [])]
theorem tu_p185 : tk_ck tt_T tt_sc tt_nt (tu_K 185) tt_nw 8000 tu_t185 tu_k185 = true := by decide +kernel
def tu_t256 : List tk_I := [(1, [([(0, 730, 0, 0, 0, 0)], [(53, 1, 0), (1, 2, 0), (0, 0, 0)], [], [((53, 1, 0), (1, 0, 47), (1, 0, 12))], (2, 0), true)], []), (1, [([(0, 12, 0, 0, 0, 0)], [(53, 1, 0), (1, 3, 0), (0, 0, 0)], [], [((53, 1, 0), (1, 0, 47), (1, 0, 12))], (3, 0), true)], []), (191, [], []), (226, [], []), (1, [([(0, 12, 0, 0, 0, 0)], [(53, 1, 0), (1, 2, 0), (1, 3, 0)], [], [((53, 1, 0), (1, 0, 47), (1, 0, 12))], (3, 0), true)], [])]
theorem tu_p256 : tk_ck tt_T tt_sc tt_nt (tu_K 256) tt_nw 8000 tu_t256 tu_k256 = true := by decide +kernel
def tu_t245 : List tk_I := [(0, [], []), (0, [], []), (211, [], []), (211, [], [])]
theorem tu_p245 : tk_ck tt_T tt_sc tt_nt (tu_K 245) tt_nw 8000 tu_t245 tu_k245 = true := by decide +kernel
def tu_t285 : List tk_I := [(0, [], []), (162, [], []), (74, [], []), (268, [], [])]
theorem tu_p285 : tk_ck tt_T tt_sc tt_nt (tu_K 285) tt_nw 8000 tu_t285 tu_k285 = true := by decide +kernel
def tu_t81 : List tk_I := [(1, [([((-2147483648), 2147483647, 0, 0, 0, 0), (0, 36, 0, 0, 0, 0)], [(31, 1, 0), (35, 2, 0), (1, 3, 0), (1, 4, 0), (1, 5, 0), (1, 6, 0), (0, 0, 0)], [], [], (6, 0), true)], []), (1, [([((-2147483648), 730, 0, 0, 0, 0)], [(31, 1, 0), (35, 2, 0), (1, 3, 0), (1, 4, 0), (1, 5, 0), (1, 6, 0), (0, 0, 0)], [(1, 11, 0)], [((31, 1, 0), (1, 0, 0), (32, 9, 0)), ((31, 1, 0), (1, 0, 1), (1, 7, 0))], (0, 0), true)], []), (1, [([(0, 2147483647, 0, 0, 0, 0)], [(31, 1, 0), (35, 2, 0), (1, 3, 0), (1, 4, 0), (1, 5, 0), (1, 6, 0), (0, 0, 0)], [(1, 13, 0), (1, 11, 0)], [((31, 1, 0), (1, 0, 0), (32, 9, 0)), ((31, 1, 0), (1, 0, 1), (1, 7, 0))], (0, 0), true)], [])]
theorem tu_p81 : tk_ck tt_T tt_sc tt_nt (tu_K 81) tt_nw 8000 tu_t81 tu_k81 = true := by decide +kernel
def tu_t242 : List tk_I := [(0, [], []), (1, [([((-1), 11, 0, 0, 0, 0), ((-1), 7, 0, 0, 0, 0), (0, 12, 0, 0, 0, 0)], [(10, 1, 0), (1, 2, 0), (1, 3, 0), (1, 4, 0), (1, 5, 0), (0, 0, 0)], [], [], (5, 0), true)], []), (75, [], []), (208, [], [])]
theorem tu_p242 : tk_ck tt_T tt_sc tt_nt (tu_K 242) tt_nw 8000 tu_t242 tu_k242 = true := by decide +kernel
def tu_t161 : List tk_I := [(91, [], [])]
theorem tu_p161 : tk_ck tt_T tt_sc tt_nt (tu_K 161) tt_nw 8000 tu_t161 tu_k161 = true := by decide +kernel
