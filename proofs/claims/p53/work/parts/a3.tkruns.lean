def tu_t11 : List tk_I := []
theorem tu_p11 : tk_ck tt_T tt_sc tt_nt (tu_K 11) tt_nw 8000 tu_t11 tu_k11 = true := by decide +kernel
def tu_t232 : List tk_I := [(194, [], []), (176, [], []), (180, [], []), (129, [], []), (14, [], [])]
theorem tu_p232 : tk_ck tt_T tt_sc tt_nt (tu_K 232) tt_nw 8000 tu_t232 tu_k232 = true := by decide +kernel
def tu_t325 : List tk_I := [(319, [], []), (1, [([((-9223372036854775808), 1000000, 0, 0, 0, 0), (0, 12, 0, 0, 0, 0)], [(53, 1, 0), (2, 3, 0), (0, 0, 0), (1, 4, 0)], [], [((53, 1, 0), (1, 0, 0), (1, 0, 0))], (4, 0), true)], []), (83, [], [])]
theorem tu_p325 : tk_ck tt_T tt_sc tt_nt (tu_K 325) tt_nw 8000 tu_t325 tu_k325 = true := by decide +kernel
def tu_t158 : List tk_I := [(72, [], []), (0, [], []), (0, [], [])]
theorem tu_p158 : tk_ck tt_T tt_sc tt_nt (tu_K 158) tt_nw 8000 tu_t158 tu_k158 = true := by decide +kernel
def tu_t277 : List tk_I := [(1, [([(0, 730, 0, 0, 0, 0)], [(53, 1, 0), (1, 2, 0), (0, 0, 0)], [], [((53, 1, 0), (1, 0, 47), (1, 0, 12))], (2, 0), true)], []), (1, [([(0, 12, 0, 0, 0, 0)], [(53, 1, 0), (1, 3, 0), (0, 0, 0)], [], [((53, 1, 0), (1, 0, 47), (1, 0, 12))], (3, 0), true)], []), (164, [], []), (221, [], []), (1, [([(0, 12, 0, 0, 0, 0)], [(53, 1, 0), (1, 2, 0), (1, 3, 0)], [], [((53, 1, 0), (1, 0, 47), (1, 0, 12))], (3, 0), true)], [])]
theorem tu_p277 : tk_ck tt_T tt_sc tt_nt (tu_K 277) tt_nw 8000 tu_t277 tu_k277 = true := by decide +kernel
def tu_t246 : List tk_I := [(0, [], []), (0, [], []), (205, [], []), (205, [], [])]
theorem tu_p246 : tk_ck tt_T tt_sc tt_nt (tu_K 246) tt_nw 8000 tu_t246 tu_k246 = true := by decide +kernel
def tu_t313 : List tk_I := [(0, [], []), (136, [], []), (17, [], []), (289, [], [])]
theorem tu_p313 : tk_ck tt_T tt_sc tt_nt (tu_K 313) tt_nw 8000 tu_t313 tu_k313 = true := by decide +kernel
def tu_t24 : List tk_I := [(1, [([((-2147483648), 2147483647, 0, 0, 0, 0), (0, 36, 0, 0, 0, 0)], [(31, 1, 0), (35, 2, 0), (1, 3, 0), (1, 4, 0), (1, 5, 0), (1, 6, 0), (0, 0, 0)], [], [], (6, 0), true)], []), (1, [([((-2147483648), 730, 0, 0, 0, 0)], [(31, 1, 0), (35, 2, 0), (1, 3, 0), (1, 4, 0), (1, 5, 0), (1, 6, 0), (0, 0, 0)], [(1, 11, 0)], [((31, 1, 0), (1, 0, 0), (32, 9, 0)), ((31, 1, 0), (1, 0, 1), (1, 7, 0))], (0, 0), true)], []), (1, [([(0, 2147483647, 0, 0, 0, 0)], [(31, 1, 0), (35, 2, 0), (1, 3, 0), (1, 4, 0), (1, 5, 0), (1, 6, 0), (0, 0, 0)], [(1, 13, 0), (1, 11, 0)], [((31, 1, 0), (1, 0, 0), (32, 9, 0)), ((31, 1, 0), (1, 0, 1), (1, 7, 0))], (0, 0), true)], [])]
theorem tu_p24 : tk_ck tt_T tt_sc tt_nt (tu_K 24) tt_nw 8000 tu_t24 tu_k24 = true := by decide +kernel
def tu_t243 : List tk_I := [(0, [], []), (1, [([((-1), 11, 0, 0, 0, 0), ((-1), 7, 0, 0, 0, 0), (0, 12, 0, 0, 0, 0)], [(10, 1, 0), (1, 2, 0), (1, 3, 0), (1, 4, 0), (1, 5, 0), (0, 0, 0)], [], [], (5, 0), true)], []), (18, [], []), (202, [], [])]
theorem tu_p243 : tk_ck tt_T tt_sc tt_nt (tu_K 243) tt_nw 8000 tu_t243 tu_k243 = true := by decide +kernel
def tu_t233 : List tk_I := [(114, [], []), (177, [], []), (181, [], []), (129, [], []), (14, [], [])]
theorem tu_p233 : tk_ck tt_T tt_sc tt_nt (tu_K 233) tt_nw 8000 tu_t233 tu_k233 = true := by decide +kernel
def tu_t114 : List tk_I := [(14, [], []), (15, [], [((24, 1, 0), (1, 0, 1)), ((24, 1, 0), (1, 0, 2))]), (14, [], []), (14, [], []), (14, [], [])]
theorem tu_p114 : tk_ck tt_T tt_sc tt_nt (tu_K 114) tt_nw 8000 tu_t114 tu_k114 = true := by decide +kernel
def tu_t115 : List tk_I := [(14, [], []), (15, [], [((24, 1, 0), (1, 0, 1)), ((24, 1, 0), (1, 0, 2))]), (14, [], []), (14, [], []), (14, [], [])]
theorem tu_p115 : tk_ck tt_T tt_sc tt_nt (tu_K 115) tt_nw 8000 tu_t115 tu_k115 = true := by decide +kernel
def tu_t116 : List tk_I := [(14, [], []), (15, [], [((24, 1, 0), (1, 0, 1)), ((24, 1, 0), (1, 0, 2))]), (14, [], []), (14, [], []), (14, [], [])]
theorem tu_p116 : tk_ck tt_T tt_sc tt_nt (tu_K 116) tt_nw 8000 tu_t116 tu_k116 = true := by decide +kernel
def tu_t117 : List tk_I := [(14, [], []), (15, [], [((24, 1, 0), (1, 0, 1)), ((24, 1, 0), (1, 0, 2))]), (14, [], []), (14, [], []), (14, [], [])]
theorem tu_p117 : tk_ck tt_T tt_sc tt_nt (tu_K 117) tt_nw 8000 tu_t117 tu_k117 = true := by decide +kernel
def tu_t118 : List tk_I := [(14, [], []), (15, [], [((24, 1, 0), (1, 0, 1)), ((24, 1, 0), (1, 0, 2))]), (14, [], []), (14, [], []), (14, [], [])]
theorem tu_p118 : tk_ck tt_T tt_sc tt_nt (tu_K 118) tt_nw 8000 tu_t118 tu_k118 = true := by decide +kernel
def tu_t119 : List tk_I := [(14, [], []), (15, [], [((24, 1, 0), (1, 0, 1)), ((24, 1, 0), (1, 0, 2))]), (14, [], []), (14, [], []), (14, [], [])]
theorem tu_p119 : tk_ck tt_T tt_sc tt_nt (tu_K 119) tt_nw 8000 tu_t119 tu_k119 = true := by decide +kernel
def tu_t121 : List tk_I := [(14, [], []), (15, [], [((24, 1, 0), (1, 0, 1)), ((24, 1, 0), (1, 0, 2))]), (14, [], []), (14, [], []), (14, [], [])]
theorem tu_p121 : tk_ck tt_T tt_sc tt_nt (tu_K 121) tt_nw 8000 tu_t121 tu_k121 = true := by decide +kernel
def tu_t122 : List tk_I := [(14, [], []), (15, [], [((24, 1, 0), (1, 0, 1)), ((24, 1, 0), (1, 0, 2))]), (14, [], []), (14, [], []), (14, [], [])]
theorem tu_p122 : tk_ck tt_T tt_sc tt_nt (tu_K 122) tt_nw 8000 tu_t122 tu_k122 = true := by decide +kernel
def tu_t123 : List tk_I := [(14, [], []), (15, [], [((24, 1, 0), (1, 0, 1)), ((24, 1, 0), (1, 0, 2))]), (14, [], []), (14, [], []), (14, [], [])]
theorem tu_p123 : tk_ck tt_T tt_sc tt_nt (tu_K 123) tt_nw 8000 tu_t123 tu_k123 = true := by decide +kernel
def tu_t124 : List tk_I := [(14, [], []), (15, [], [((24, 1, 0), (1, 0, 1)), ((24, 1, 0), (1, 0, 2))]), (14, [], []), (14, [], []), (14, [], [])]
theorem tu_p124 : tk_ck tt_T tt_sc tt_nt (tu_K 124) tt_nw 8000 tu_t124 tu_k124 = true := by decide +kernel
def tu_t125 : List tk_I := [(14, [], []), (15, [], [((24, 1, 0), (1, 0, 1)), ((24, 1, 0), (1, 0, 2))]), (14, [], []), (14, [], []), (14, [], [])]
theorem tu_p125 : tk_ck tt_T tt_sc tt_nt (tu_K 125) tt_nw 8000 tu_t125 tu_k125 = true := by decide +kernel
def tu_t126 : List tk_I := [(14, [], []), (15, [], [((24, 1, 0), (1, 0, 1)), ((24, 1, 0), (1, 0, 2))]), (14, [], []), (14, [], []), (14, [], [])]
theorem tu_p126 : tk_ck tt_T tt_sc tt_nt (tu_K 126) tt_nw 8000 tu_t126 tu_k126 = true := by decide +kernel
def tu_t135 : List tk_I := [(34, [], [])]
theorem tu_p135 : tk_ck tt_T tt_sc tt_nt (tu_K 135) tt_nw 8000 tu_t135 tu_k135 = true := by decide +kernel
def tu_t112 : List tk_I := [(14, [], []), (15, [], [((24, 1, 0), (1, 0, 1)), ((24, 1, 0), (1, 0, 2))]), (14, [], []), (14, [], []), (14, [], [])]
theorem tu_p112 : tk_ck tt_T tt_sc tt_nt (tu_K 112) tt_nw 8000 tu_t112 tu_k112 = true := by decide +kernel
def tu_t113 : List tk_I := [(14, [], []), (15, [], [((24, 1, 0), (1, 0, 1)), ((24, 1, 0), (1, 0, 2))]), (14, [], []), (14, [], []), (14, [], [])]
theorem tu_p113 : tk_ck tt_T tt_sc tt_nt (tu_K 113) tt_nw 8000 tu_t113 tu_k113 = true := by decide +kernel
def tu_t120 : List tk_I := [(14, [], []), (15, [], [((24, 1, 0), (1, 0, 1)), ((24, 1, 0), (1, 0, 2))]), (14, [], []), (14, [], []), (14, [], [])]
theorem tu_p120 : tk_ck tt_T tt_sc tt_nt (tu_K 120) tt_nw 8000 tu_t120 tu_k120 = true := by decide +kernel
def tu_t70 : List tk_I := [(1, [([(0, 6, 0, 0, 0, 0)], [(53, 1, 0), (1, 2, 0), (1, 3, 0), (1, 4, 0)], [], [], (4, 0), true)], []), (0, [], [])]
theorem tu_p70 : tk_ck tt_T tt_sc tt_nt (tu_K 70) tt_nw 8000 tu_t70 tu_k70 = true := by decide +kernel
def tu_t216 : List tk_I := [(0, [], []), (0, [], []), (130, [], [])]
theorem tu_p216 : tk_ck tt_T tt_sc tt_nt (tu_K 216) tt_nw 8000 tu_t216 tu_k216 = true := by decide +kernel
def tu_t142 : List tk_I := [(0, [], []), (0, [], []), (32, [], [])]
theorem tu_p142 : tk_ck tt_T tt_sc tt_nt (tu_K 142) tt_nw 8000 tu_t142 tu_k142 = true := by decide +kernel
def tu_t26 : List tk_I := [(1, [([((-1), 40, 0, 0, 0, 0), ((-1), 40, 0, 0, 0, 0), (1, 41, 0, 0, 0, 0)], [(38, 1, 0), (1, 2, 0), (1, 3, 0), (1, 4, 0), (1, 5, 0)], [], [], (5, 0), true)], [])]
theorem tu_p26 : tk_ck tt_T tt_sc tt_nt (tu_K 26) tt_nw 8000 tu_t26 tu_k26 = true := by decide +kernel
def tu_t227 : List tk_I := [(0, [], []), (0, [], []), (1, [([((-1), 11, 0, 0, 0, 0), (0, 2147483647, 0, 0, 0, 0), (0, 12, 0, 0, 0, 0)], [(53, 1, 0), (1, 2, 0), (1, 3, 0), (1, 4, 0), (1, 5, 0), (0, 0, 0)], [], [((53, 1, 0), (1, 0, 0), (1, 0, 0))], (5, 0), true)], []), (171, [], [])]
theorem tu_p227 : tk_ck tt_T tt_sc tt_nt (tu_K 227) tt_nw 8000 tu_t227 tu_k227 = true := by decide +kernel
def tu_t318 : List tk_I := [(0, [], []), (0, [], []), (304, [], []), (83, [], [])]
theorem tu_p318 : tk_ck tt_T tt_sc tt_nt (tu_K 318) tt_nw 8000 tu_t318 tu_k318 = true := by decide +kernel
def tu_t247 : List tk_I := [(0, [], []), (1, [([((-1), 2147483647, 0, 0, 0, 0), (0, 7, 0, 0, 0, 0)], [(10, 1, 0), (1, 2, 0), (1, 3, 0), (1, 7, 0), (1, 8, 0)], [], [((17, 4, 0), (1, 0, 1), (1, 5, 0)), ((10, 1, 0), (1, 0, 2), (17, 4, 0))], (8, 0), true)], []), (208, [], [])]
theorem tu_p247 : tk_ck tt_T tt_sc tt_nt (tu_K 247) tt_nw 8000 tu_t247 tu_k247 = true := by decide +kernel
def tu_t164 : List tk_I := [(0, [], []), (0, [], []), (87, [], [])]
theorem tu_p164 : tk_ck tt_T tt_sc tt_nt (tu_K 164) tt_nw 8000 tu_t164 tu_k164 = true := by decide +kernel
def tu_t221 : List tk_I := [(1, [([((-2147483648), 2147483647, 0, 0, 0, 0), (0, 119, 0, 0, 0, 0), (1, 120, 0, 0, 0, 0)], [(53, 1, 0), (1, 2, 0), (1, 3, 0), (1, 4, 0), (1, 5, 0), (1, 6, 0), (1, 7, 0)], [], [], (7, 0), true)], []), (0, [], []), (163, [], [])]
theorem tu_p221 : tk_ck tt_T tt_sc tt_nt (tu_K 221) tt_nw 8000 tu_t221 tu_k221 = true := by decide +kernel
def tu_t294 : List tk_I := [(155, [], []), (256, [], []), (264, [], [((1, 19, 0), (1, 3, 0))])]
theorem tu_p294 : tk_ck tt_T tt_sc tt_nt (tu_K 294) tt_nw 8000 tu_t294 tu_k294 = true := by decide +kernel
def tu_t223 : List tk_I := [(0, [], []), (0, [], []), (165, [], [])]
theorem tu_p223 : tk_ck tt_T tt_sc tt_nt (tu_K 223) tt_nw 8000 tu_t223 tu_k223 = true := by decide +kernel
def tu_t150 : List tk_I := [(51, [], [])]
theorem tu_p150 : tk_ck tt_T tt_sc tt_nt (tu_K 150) tt_nw 8000 tu_t150 tu_k150 = true := by decide +kernel
def tu_t155 : List tk_I := [(0, [], []), (99, [], []), (100, [], []), (100, [], []), (100, [], []), (100, [], [])]
theorem tu_p155 : tk_ck tt_T tt_sc tt_nt (tu_K 155) tt_nw 8000 tu_t155 tu_k155 = true := by decide +kernel
def tu_t168 : List tk_I := [(0, [], []), (0, [], []), (1, [([((-2147483648), 2147483647, 0, 0, 0, 0), (0, 730, 0, 0, 0, 0)], [(53, 1, 0), (1, 2, 0), (1, 6, 0), (1, 7, 0)], [], [((60, 3, 0), (1, 0, 0), (1, 4, 0)), ((53, 1, 0), (1, 0, 17), (60, 3, 0)), ((53, 1, 0), (1, 0, 0), (1, 0, 0))], (7, 0), true)], []), (72, [], [])]
theorem tu_p168 : tk_ck tt_T tt_sc tt_nt (tu_K 168) tt_nw 8000 tu_t168 tu_k168 = true := by decide +kernel
def tu_t153 : List tk_I := [(0, [], []), (99, [], []), (100, [], []), (100, [], []), (100, [], []), (100, [], [])]
theorem tu_p153 : tk_ck tt_T tt_sc tt_nt (tu_K 153) tt_nw 8000 tu_t153 tu_k153 = true := by decide +kernel
def tu_t154 : List tk_I := [(0, [], []), (99, [], []), (100, [], []), (100, [], []), (100, [], []), (100, [], [])]
theorem tu_p154 : tk_ck tt_T tt_sc tt_nt (tu_K 154) tt_nw 8000 tu_t154 tu_k154 = true := by decide +kernel
def tu_t156 : List tk_I := [(0, [], []), (99, [], []), (100, [], []), (100, [], []), (100, [], []), (100, [], [])]
theorem tu_p156 : tk_ck tt_T tt_sc tt_nt (tu_K 156) tt_nw 8000 tu_t156 tu_k156 = true := by decide +kernel
def tu_t283 : List tk_I := [(0, [], []), (0, [], []), (221, [], []), (1, [([((-1), 11, 0, 0, 0, 0), (0, 2147483647, 0, 0, 0, 0), (0, 12, 0, 0, 0, 0)], [(53, 1, 0), (1, 2, 0), (1, 3, 0), (1, 4, 0), (1, 5, 0), (0, 0, 0)], [], [((53, 1, 0), (1, 0, 0), (1, 0, 0))], (5, 0), true)], []), (168, [], []), (89, [], [])]
theorem tu_p283 : tk_ck tt_T tt_sc tt_nt (tu_K 283) tt_nw 8000 tu_t283 tu_k283 = true := by decide +kernel
def tu_t19 : List tk_I := [(1, [([((-1), 119, 0, 0, 0, 0)], [(26, 1, 0), (1, 2, 0), (1, 3, 0), (1, 5, 0)], [], [((26, 1, 0), (1, 0, 4), (1, 4, 0))], (5, 0), false)], []), (0, [], [])]
theorem tu_p19 : tk_ck tt_T tt_sc tt_nt (tu_K 19) tt_nw 8000 tu_t19 tu_k19 = true := by decide +kernel
def tu_t18 : List tk_I := [(1, [([(0, 120, 0, 0, 0, 0)], [(26, 1, 0), (1, 2, 0), (1, 3, 0), (1, 4, 0)], [], [], (4, 0), true)], []), (0, [], [])]
theorem tu_p18 : tk_ck tt_T tt_sc tt_nt (tu_K 18) tt_nw 8000 tu_t18 tu_k18 = true := by decide +kernel
def tu_t206 : List tk_I := [(1, [([((-1), 2147483647, 0, 0, 0, 0), (0, 6, 0, 0, 0, 0)], [(10, 1, 0), (1, 2, 0), (1, 3, 0), (1, 4, 0), (1, 5, 0), (0, 0, 0)], [], [], (5, 0), true)], []), (138, [], []), (138, [], [])]
theorem tu_p206 : tk_ck tt_T tt_sc tt_nt (tu_K 206) tt_nw 8000 tu_t206 tu_k206 = true := by decide +kernel
def tu_t127 : List tk_I := [(15, [], [((24, 1, 0), (1, 0, 1)), ((24, 1, 0), (1, 0, 2))]), (14, [], []), (15, [], [((24, 1, 0), (1, 0, 1)), ((24, 1, 0), (1, 0, 2))]), (14, [], []), (15, [], [((24, 1, 0), (1, 0, 1)), ((24, 1, 0), (1, 0, 2))])]
theorem tu_p127 : tk_ck tt_T tt_sc tt_nt (tu_K 127) tt_nw 8000 tu_t127 tu_k127 = true := by decide +kernel
def tu_t321 : List tk_I := [(0, [], []), (0, [], []), (1, [([((-2147483648), 2147483647, 0, 0, 0, 0), (0, 730, 0, 0, 0, 0)], [(53, 1, 0), (1, 2, 0), (1, 3, 0), (1, 7, 0), (1, 8, 0)], [], [((60, 4, 0), (1, 0, 0), (1, 5, 0)), ((53, 1, 0), (1, 0, 17), (60, 4, 0)), ((53, 1, 0), (1, 0, 0), (1, 0, 0))], (8, 0), true)], []), (310, [], [])]
theorem tu_p321 : tk_ck tt_T tt_sc tt_nt (tu_K 321) tt_nw 8000 tu_t321 tu_k321 = true := by decide +kernel
def tu_t82 : List tk_I := []
theorem tu_p82 : tk_ck tt_T tt_sc tt_nt (tu_K 82) tt_nw 8000 tu_t82 tu_k82 = true := by decide +kernel
def tu_t130 : List tk_I := [(1, [([(0, 6, 0, 0, 0, 0)], [(31, 1, 0), (17, 2, 0), (1, 3, 0)], [], [], (3, 0), true)], []), (1, [([(0, 6, 0, 0, 0, 0)], [(31, 1, 0), (17, 2, 0), (1, 6, 0)], [], [((17, 2, 0), (1, 0, 3), (1, 4, 0))], (6, 0), true)], []), (1, [([(0, 6, 0, 0, 0, 0)], [(31, 1, 0), (17, 2, 0), (1, 9, 0)], [], [((17, 2, 0), (1, 0, 5), (1, 7, 0)), ((17, 2, 0), (1, 0, 3), (1, 4, 0))], (9, 0), true)], []), (24, [], []), (24, [], []), (24, [], []), (24, [], []), (24, [], [])]
theorem tu_p130 : tk_ck tt_T tt_sc tt_nt (tu_K 130) tt_nw 8000 tu_t130 tu_k130 = true := by decide +kernel
def tu_t219 : List tk_I := [(1, [([(0, 12, 0, 0, 0, 0)], [(53, 1, 0), (1, 2, 0), (1, 3, 0), (1, 4, 0)], [], [], (4, 0), true)], []), (1, [([((-1), 11, 0, 0, 0, 0)], [(53, 1, 0), (1, 2, 0), (1, 3, 0), (1, 8, 0)], [], [((53, 1, 0), (1, 0, 17), (60, 5, 0))], (8, 0), false)], []), (73, [], []), (160, [], [])]
theorem tu_p219 : tk_ck tt_T tt_sc tt_nt (tu_K 219) tt_nw 8000 tu_t219 tu_k219 = true := by decide +kernel
def tu_t207 : List tk_I := [(0, [], []), (0, [], []), (1, [([(0, 2147483647, 0, 0, 0, 0), (0, 12, 0, 0, 0, 0)], [(10, 1, 0), (1, 2, 0), (1, 3, 0), (1, 4, 0), (1, 5, 0)], [], [], (5, 0), true)], []), (137, [], [])]
theorem tu_p207 : tk_ck tt_T tt_sc tt_nt (tu_K 207) tt_nw 8000 tu_t207 tu_k207 = true := by decide +kernel
def tu_t290 : List tk_I := [(0, [], []), (145, [], []), (240, [], []), (0, [], []), (32, [], []), (32, [], [])]
theorem tu_p290 : tk_ck tt_T tt_sc tt_nt (tu_K 290) tt_nw 8000 tu_t290 tu_k290 = true := by decide +kernel
def tu_t307 : List tk_I := [(0, [], []), (0, [], []), (0, [], []), (0, [], []), (283, [], [])]
theorem tu_p307 : tk_ck tt_T tt_sc tt_nt (tu_K 307) tt_nw 8000 tu_t307 tu_k307 = true := by decide +kernel
def tu_t289 : List tk_I := [(0, [], []), (242, [], []), (201, [], []), (94, [], []), (3, [], []), (201, [], []), (94, [], []), (3, [], [])]
theorem tu_p289 : tk_ck tt_T tt_sc tt_nt (tu_K 289) tt_nw 8000 tu_t289 tu_k289 = true := by decide +kernel
def tu_t226 : List tk_I := [(0, [], []), (0, [], []), (0, [], []), (0, [], []), (171, [], [])]
theorem tu_p226 : tk_ck tt_T tt_sc tt_nt (tu_K 226) tt_nw 8000 tu_t226 tu_k226 = true := by decide +kernel
def tu_t320 : List tk_I := [(0, [], []), (0, [], []), (0, [], []), (0, [], []), (310, [], [])]
theorem tu_p320 : tk_ck tt_T tt_sc tt_nt (tu_K 320) tt_nw 8000 tu_t320 tu_k320 = true := by decide +kernel
def tu_t322 : List tk_I := [(0, [], []), (0, [], []), (0, [], []), (0, [], []), (317, [], [])]
theorem tu_p322 : tk_ck tt_T tt_sc tt_nt (tu_K 322) tt_nw 8000 tu_t322 tu_k322 = true := by decide +kernel
