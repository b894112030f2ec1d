def tu_t70 : List tk_I := []
theorem tu_p70 : tk_ck tt_T tt_sc tt_nt (tu_K 70) tt_nw 4000 tu_t70 tu_k70 = true := by decide +kernel
def tu_t71 : List tk_I := []
theorem tu_p71 : tk_ck tt_T tt_sc tt_nt (tu_K 71) tt_nw 4000 tu_t71 tu_k71 = true := by decide +kernel
def tu_t72 : List tk_I := []
theorem tu_p72 : tk_ck tt_T tt_sc tt_nt (tu_K 72) tt_nw 4000 tu_t72 tu_k72 = true := by decide +kernel
def tu_t73 : List tk_I := [(1, [([((-1), 119, 0, 0, 0, 0)], [(26, 1, 0), (1, 2, 0), (1, 4, 0)], [], [((26, 1, 0), (1, 0, 4), (1, 3, 0))], (4, 0), false)], [])]
theorem tu_p73 : tk_ck tt_T tt_sc tt_nt (tu_K 73) tt_nw 4000 tu_t73 tu_k73 = true := by decide +kernel
def tu_t74 : List tk_I := [(1, [([(0, 120, 0, 0, 0, 0)], [(26, 1, 0), (1, 2, 0), (1, 3, 0), (1, 4, 0)], [], [], (4, 0), true)], []), (0, [], [])]
theorem tu_p74 : tk_ck tt_T tt_sc tt_nt (tu_K 74) tt_nw 4000 tu_t74 tu_k74 = true := by decide +kernel
def tu_t75 : List tk_I := [(1, [([(0, 120, 0, 0, 0, 0)], [(26, 1, 0), (1, 2, 0), (1, 3, 0), (1, 4, 0)], [], [], (4, 0), true)], []), (0, [], [])]
theorem tu_p75 : tk_ck tt_T tt_sc tt_nt (tu_K 75) tt_nw 4000 tu_t75 tu_k75 = true := by decide +kernel
def tu_t76 : List tk_I := [(1, [([((-1), 119, 0, 0, 0, 0)], [(26, 1, 0), (1, 2, 0), (1, 3, 0), (1, 5, 0)], [], [((26, 1, 0), (1, 0, 4), (1, 4, 0))], (5, 0), false)], []), (0, [], [])]
theorem tu_p76 : tk_ck tt_T tt_sc tt_nt (tu_K 76) tt_nw 4000 tu_t76 tu_k76 = true := by decide +kernel
def tu_t77 : List tk_I := [(1, [([(0, 120, 0, 0, 0, 0)], [(26, 1, 0), (1, 2, 0), (1, 3, 0), (1, 4, 0)], [], [], (4, 0), true)], [])]
theorem tu_p77 : tk_ck tt_T tt_sc tt_nt (tu_K 77) tt_nw 4000 tu_t77 tu_k77 = true := by decide +kernel
def tu_t78 : List tk_I := []
theorem tu_p78 : tk_ck tt_T tt_sc tt_nt (tu_K 78) tt_nw 4000 tu_t78 tu_k78 = true := by decide +kernel
def tu_t79 : List tk_I := []
theorem tu_p79 : tk_ck tt_T tt_sc tt_nt (tu_K 79) tt_nw 4000 tu_t79 tu_k79 = true := by decide +kernel
def tu_t82 : List tk_I := [(1, [([(0, 120, 0, 0, 0, 0), (0, 120, 0, 0, 0, 0), ((-120), 0, 2, 5, 4, 0)], [(38, 1, 0), (26, 2, 0), (1, 3, 0), (1, 4, 0)], [], [((38, 1, 0), (1, 0, 4), (1, 5, 0))], (4, 0), true)], []), (0, [], [])]
theorem tu_p82 : tk_ck tt_T tt_sc tt_nt (tu_K 82) tt_nw 4000 tu_t82 tu_k82 = true := by decide +kernel
def tu_t83 : List tk_I := [(1, [([((-1), 40, 0, 0, 0, 0), ((-1), 40, 0, 0, 0, 0), (1, 41, 0, 0, 0, 0)], [(38, 1, 0), (1, 2, 0), (1, 3, 0), (1, 4, 0), (1, 5, 0)], [], [], (5, 0), true)], [])]
theorem tu_p83 : tk_ck tt_T tt_sc tt_nt (tu_K 83) tt_nw 4000 tu_t83 tu_k83 = true := by decide +kernel
def tu_t84 : List tk_I := []
theorem tu_p84 : tk_ck tt_T tt_sc tt_nt (tu_K 84) tt_nw 4000 tu_t84 tu_k84 = true := by decide +kernel
def tu_t85 : List tk_I := []
theorem tu_p85 : tk_ck tt_T tt_sc tt_nt (tu_K 85) tt_nw 4000 tu_t85 tu_k85 = true := by decide +kernel
def tu_t86 : List tk_I := []
theorem tu_p86 : tk_ck tt_T tt_sc tt_nt (tu_K 86) tt_nw 4000 tu_t86 tu_k86 = true := by decide +kernel
def tu_t87 : List tk_I := [(1, [([((-2147483648), 2147483647, 0, 0, 0, 0)], [(23, 1, 0), (1, 2, 0), (0, 0, 0), (0, 0, 0)], [(1, 4, 0)], [((23, 1, 0), (1, 0, 3), (1, 3, 0))], (0, 0), true)], [])]
theorem tu_p87 : tk_ck tt_T tt_sc tt_nt (tu_K 87) tt_nw 4000 tu_t87 tu_k87 = true := by decide +kernel
def tu_t88 : List tk_I := [(1, [([(0, 2, 0, 0, 0, 0)], [(17, 1, 0), (1, 2, 0)], [], [((17, 1, 0), (1, 0, 9), (1, 0, 0)), ((17, 1, 0), (1, 0, 7), (1, 0, 0)), ((17, 1, 0), (1, 0, 5), (1, 0, 0)), ((17, 1, 0), (1, 0, 3), (1, 0, 0)), ((17, 1, 0), (1, 0, 1), (1, 0, 0))], (2, 0), true)], [])]
theorem tu_p88 : tk_ck tt_T tt_sc tt_nt (tu_K 88) tt_nw 4000 tu_t88 tu_k88 = true := by decide +kernel
def tu_t89 : List tk_I := [(1, [([(0, 6, 0, 0, 0, 0)], [(17, 1, 0), (1, 2, 0), (1, 3, 0), (1, 4, 0), (0, 0, 0)], [], [], (4, 0), true)], [])]
theorem tu_p89 : tk_ck tt_T tt_sc tt_nt (tu_K 89) tt_nw 4000 tu_t89 tu_k89 = true := by decide +kernel
def tu_t90 : List tk_I := [(1, [([((-2147483648), 2147483647, 0, 0, 0, 0), (0, 6, 0, 0, 0, 0)], [(17, 1, 0), (1, 2, 0), (1, 3, 0), (1, 4, 0), (1, 5, 0)], [], [], (5, 0), true)], [])]
theorem tu_p90 : tk_ck tt_T tt_sc tt_nt (tu_K 90) tt_nw 4000 tu_t90 tu_k90 = true := by decide +kernel
def tu_t91 : List tk_I := [(1, [([((-2147483648), 2147483647, 0, 0, 0, 0), (0, 6, 0, 0, 0, 0)], [(17, 1, 0), (1, 2, 0), (1, 3, 0), (1, 4, 0), (1, 5, 0)], [], [], (5, 0), true)], [])]
theorem tu_p91 : tk_ck tt_T tt_sc tt_nt (tu_K 91) tt_nw 4000 tu_t91 tu_k91 = true := by decide +kernel
def tu_t92 : List tk_I := [(1, [([(0, 4095, 0, 0, 0, 0), ((-1), 11, 0, 0, 0, 0), (0, 12, 0, 0, 0, 0)], [(17, 1, 0), (1, 2, 0), (1, 6, 0), (1, 7, 0), (1, 8, 0)], [], [((21, 4, 0), (1, 0, 0), (1, 5, 0)), ((18, 3, 0), (1, 2, 0), (21, 4, 0)), ((17, 1, 0), (1, 0, 0), (18, 3, 0))], (8, 0), true)], [])]
theorem tu_p92 : tk_ck tt_T tt_sc tt_nt (tu_K 92) tt_nw 4000 tu_t92 tu_k92 = true := by decide +kernel
def tu_t93 : List tk_I := [(1, [([(1, 12, 0, 0, 0, 0)], [(17, 1, 0), (1, 2, 0), (1, 3, 0)], [], [], (3, 0), true)], [])]
theorem tu_p93 : tk_ck tt_T tt_sc tt_nt (tu_K 93) tt_nw 4000 tu_t93 tu_k93 = true := by decide +kernel
def tu_t95 : List tk_I := [(1, [([(1, 4096, 0, 0, 0, 0)], [(43, 1, 0), (47, 2, 0), (48, 3, 0), (1, 4, 0), (1, 5, 0)], [], [], (5, 0), true)], []), (37, [], [])]
theorem tu_p95 : tk_ck tt_T tt_sc tt_nt (tu_K 95) tt_nw 4000 tu_t95 tu_k95 = true := by decide +kernel
def tu_t97 : List tk_I := []
theorem tu_p97 : tk_ck tt_T tt_sc tt_nt (tu_K 97) tt_nw 4000 tu_t97 tu_k97 = true := by decide +kernel
def tu_t98 : List tk_I := []
theorem tu_p98 : tk_ck tt_T tt_sc tt_nt (tu_K 98) tt_nw 4000 tu_t98 tu_k98 = true := by decide +kernel
def tu_t99 : List tk_I := [(0, [], []), (0, [], []), (0, [], [])]
theorem tu_p99 : tk_ck tt_T tt_sc tt_nt (tu_K 99) tt_nw 4000 tu_t99 tu_k99 = true := by decide +kernel
def tu_t100 : List tk_I := [(70, [], [])]
theorem tu_p100 : tk_ck tt_T tt_sc tt_nt (tu_K 100) tt_nw 4000 tu_t100 tu_k100 = true := by decide +kernel
def tu_t101 : List tk_I := [(0, [], [])]
theorem tu_p101 : tk_ck tt_T tt_sc tt_nt (tu_K 101) tt_nw 4000 tu_t101 tu_k101 = true := by decide +kernel
def tu_t102 : List tk_I := []
theorem tu_p102 : tk_ck tt_T tt_sc tt_nt (tu_K 102) tt_nw 4000 tu_t102 tu_k102 = true := by decide +kernel
def tu_t103 : List tk_I := [(0, [], []), (0, [], []), (1, [([((-2147483648), 2147483647, 0, 0, 0, 0), (0, 120, 0, 0, 0, 0)], [(10, 1, 0), (1, 2, 0), (1, 3, 0), (1, 7, 0), (1, 8, 0)], [], [((17, 4, 0), (1, 0, 1), (1, 5, 0)), ((10, 1, 0), (1, 0, 2), (17, 4, 0))], (8, 0), true)], [])]
theorem tu_p103 : tk_ck tt_T tt_sc tt_nt (tu_K 103) tt_nw 4000 tu_t103 tu_k103 = true := by decide +kernel
def tu_t104 : List tk_I := [(1, [([(0, 6, 0, 0, 0, 0)], [(10, 1, 0), (1, 2, 0), (1, 3, 0), (1, 4, 0)], [], [], (4, 0), true)], [])]
theorem tu_p104 : tk_ck tt_T tt_sc tt_nt (tu_K 104) tt_nw 4000 tu_t104 tu_k104 = true := by decide +kernel
def tu_t106 : List tk_I := [(1, [([((-2147483648), 2147483647, 0, 0, 0, 0), (0, 4, 0, 0, 0, 0)], [(10, 1, 0), (1, 2, 0), (1, 3, 0)], [], [], (3, 0), true)], [])]
theorem tu_p106 : tk_ck tt_T tt_sc tt_nt (tu_K 106) tt_nw 4000 tu_t106 tu_k106 = true := by decide +kernel
def tu_t107 : List tk_I := [(0, [], []), (0, [], [])]
theorem tu_p107 : tk_ck tt_T tt_sc tt_nt (tu_K 107) tt_nw 4000 tu_t107 tu_k107 = true := by decide +kernel
def tu_t108 : List tk_I := [(0, [], []), (0, [], []), (0, [], []), (1, [([(0, 60, 0, 0, 0, 0)], [(53, 1, 0), (1, 2, 0), (1, 3, 0), (1, 4, 0), (1, 7, 0)], [], [((55, 6, 0), (1, 2, 0), (1, 4, 0)), ((53, 1, 0), (1, 0, 2), (55, 6, 0)), ((54, 5, 0), (1, 2, 0), (1, 3, 0)), ((53, 1, 0), (1, 0, 1), (54, 5, 0)), ((53, 1, 0), (1, 0, 0), (1, 0, 0))], (7, 0), true)], [])]
theorem tu_p108 : tk_ck tt_T tt_sc tt_nt (tu_K 108) tt_nw 4000 tu_t108 tu_k108 = true := by decide +kernel
def tu_t109 : List tk_I := [(0, [], []), (0, [], []), (0, [], []), (0, [], [])]
theorem tu_p109 : tk_ck tt_T tt_sc tt_nt (tu_K 109) tt_nw 4000 tu_t109 tu_k109 = true := by decide +kernel
def tu_t111 : List tk_I := [(0, [], []), (0, [], []), (0, [], []), (0, [], []), (0, [], [])]
theorem tu_p111 : tk_ck tt_T tt_sc tt_nt (tu_K 111) tt_nw 4000 tu_t111 tu_k111 = true := by decide +kernel
def tu_t112 : List tk_I := [(0, [], [])]
theorem tu_p112 : tk_ck tt_T tt_sc tt_nt (tu_K 112) tt_nw 4000 tu_t112 tu_k112 = true := by decide +kernel
def tu_t113 : List tk_I := []
theorem tu_p113 : tk_ck tt_T tt_sc tt_nt (tu_K 113) tt_nw 4000 tu_t113 tu_k113 = true := by decide +kernel
def tu_t114 : List tk_I := [(1, [([(0, 6, 0, 0, 0, 0)], [(53, 1, 0), (1, 2, 0), (1, 3, 0), (1, 4, 0)], [], [], (4, 0), true)], []), (0, [], [])]
theorem tu_p114 : tk_ck tt_T tt_sc tt_nt (tu_K 114) tt_nw 4000 tu_t114 tu_k114 = true := by decide +kernel
def tu_t116 : List tk_I := []
theorem tu_p116 : tk_ck tt_T tt_sc tt_nt (tu_K 116) tt_nw 4000 tu_t116 tu_k116 = true := by decide +kernel
def tu_t117 : List tk_I := []
theorem tu_p117 : tk_ck tt_T tt_sc tt_nt (tu_K 117) tt_nw 4000 tu_t117 tu_k117 = true := by decide +kernel
def tu_t118 : List tk_I := []
theorem tu_p118 : tk_ck tt_T tt_sc tt_nt (tu_K 118) tt_nw 4000 tu_t118 tu_k118 = true := by decide +kernel
def tu_t119 : List tk_I := [(1, [([(0, 12, 0, 0, 0, 0)], [(53, 1, 0), (1, 2, 0), (0, 0, 0)], [], [], (2, 0), true)], []), (1, [([(0, 7, 0, 0, 0, 0)], [(53, 1, 0), (1, 2, 0), (1, 6, 0)], [], [((53, 1, 0), (1, 0, 17), (60, 3, 0))], (6, 0), true)], [])]
theorem tu_p119 : tk_ck tt_T tt_sc tt_nt (tu_K 119) tt_nw 4000 tu_t119 tu_k119 = true := by decide +kernel
def tu_t120 : List tk_I := [(1, [([(0, 120, 0, 0, 0, 0)], [(53, 1, 0), (1, 2, 0), (1, 3, 0), (1, 6, 0)], [], [((92, 4, 0), (1, 3, 0), (1, 5, 0)), ((53, 1, 0), (1, 0, 52), (92, 4, 0))], (6, 0), true)], [])]
theorem tu_p120 : tk_ck tt_T tt_sc tt_nt (tu_K 120) tt_nw 4000 tu_t120 tu_k120 = true := by decide +kernel
def tu_t121 : List tk_I := [(1, [([(0, 119, 0, 0, 0, 0)], [(53, 1, 0), (1, 2, 0), (1, 3, 0), (1, 4, 0), (1, 5, 0), (1, 8, 0)], [], [((92, 6, 0), (1, 0, 0), (1, 7, 0)), ((53, 1, 0), (1, 0, 52), (92, 6, 0))], (8, 0), true)], [])]
theorem tu_p121 : tk_ck tt_T tt_sc tt_nt (tu_K 121) tt_nw 4000 tu_t121 tu_k121 = true := by decide +kernel
def tu_t122 : List tk_I := [(0, [], [])]
theorem tu_p122 : tk_ck tt_T tt_sc tt_nt (tu_K 122) tt_nw 4000 tu_t122 tu_k122 = true := by decide +kernel
def tu_t123 : List tk_I := [(0, [], [])]
theorem tu_p123 : tk_ck tt_T tt_sc tt_nt (tu_K 123) tt_nw 4000 tu_t123 tu_k123 = true := by decide +kernel
def tu_t124 : List tk_I := [(0, [], []), (0, [], []), (0, [], []), (1, [([((-2147483648), 2147483647, 0, 0, 0, 0), (0, 120, 0, 0, 0, 0)], [(53, 1, 0), (1, 2, 0), (1, 3, 0), (1, 7, 0), (1, 8, 0)], [], [((60, 4, 0), (1, 0, 0), (1, 5, 0)), ((53, 1, 0), (1, 0, 17), (60, 4, 0)), ((53, 1, 0), (1, 0, 0), (1, 0, 0))], (8, 0), true)], [])]
theorem tu_p124 : tk_ck tt_T tt_sc tt_nt (tu_K 124) tt_nw 4000 tu_t124 tu_k124 = true := by decide +kernel
def tu_t125 : List tk_I := [(1, [([((-2147483648), 2147483647, 0, 0, 0, 0), (0, 127, 0, 0, 0, 0)], [(1, 1, 0), (1, 2, 0), (1, 3, 0)], [], [], (3, 0), false)], [])]
theorem tu_p125 : tk_ck tt_T tt_sc tt_nt (tu_K 125) tt_nw 4000 tu_t125 tu_k125 = true := by decide +kernel
def tu_t126 : List tk_I := []
theorem tu_p126 : tk_ck tt_T tt_sc tt_nt (tu_K 126) tt_nw 4000 tu_t126 tu_k126 = true := by decide +kernel
def tu_t127 : List tk_I := [(0, [], []), (0, [], [])]
theorem tu_p127 : tk_ck tt_T tt_sc tt_nt (tu_K 127) tt_nw 4000 tu_t127 tu_k127 = true := by decide +kernel
def tu_t128 : List tk_I := []
theorem tu_p128 : tk_ck tt_T tt_sc tt_nt (tu_K 128) tt_nw 4000 tu_t128 tu_k128 = true := by decide +kernel
def tu_t129 : List tk_I := []
theorem tu_p129 : tk_ck tt_T tt_sc tt_nt (tu_K 129) tt_nw 4000 tu_t129 tu_k129 = true := by decide +kernel
def tu_t130 : List tk_I := [(1, [([(0, 120, 0, 0, 0, 0)], [(53, 1, 0), (1, 2, 0), (1, 3, 0), (1, 4, 0)], [], [], (4, 0), true)], [])]
theorem tu_p130 : tk_ck tt_T tt_sc tt_nt (tu_K 130) tt_nw 4000 tu_t130 tu_k130 = true := by decide +kernel
def tu_t131 : List tk_I := []
theorem tu_p131 : tk_ck tt_T tt_sc tt_nt (tu_K 131) tt_nw 4000 tu_t131 tu_k131 = true := by decide +kernel
def tu_t132 : List tk_I := [(0, [], []), (0, [], []), (1, [([((-1), 119, 0, 0, 0, 0), ((-1), 729, 0, 0, 0, 0), (0, 120, 0, 0, 0, 0)], [(53, 1, 0), (1, 2, 0), (1, 6, 0), (1, 7, 0), (1, 8, 0)], [], [((60, 3, 0), (1, 0, 0), (1, 4, 0)), ((53, 1, 0), (1, 0, 17), (60, 3, 0)), ((53, 1, 0), (1, 0, 0), (1, 0, 0))], (8, 0), true)], []), (0, [], [])]
theorem tu_p132 : tk_ck tt_T tt_sc tt_nt (tu_K 132) tt_nw 4000 tu_t132 tu_k132 = true := by decide +kernel
def tu_t133 : List tk_I := [(1, [([((-2147483648), 2147483647, 0, 0, 0, 0), (0, 4, 0, 0, 0, 0)], [(53, 1, 0), (1, 2, 0), (1, 3, 0), (1, 4, 0)], [], [((53, 1, 0), (1, 0, 0), (1, 0, 0))], (4, 0), true)], [])]
theorem tu_p133 : tk_ck tt_T tt_sc tt_nt (tu_K 133) tt_nw 4000 tu_t133 tu_k133 = true := by decide +kernel
def tu_t134 : List tk_I := []
theorem tu_p134 : tk_ck tt_T tt_sc tt_nt (tu_K 134) tt_nw 4000 tu_t134 tu_k134 = true := by decide +kernel
def tu_t135 : List tk_I := []
theorem tu_p135 : tk_ck tt_T tt_sc tt_nt (tu_K 135) tt_nw 4000 tu_t135 tu_k135 = true := by decide +kernel
def tu_t136 : List tk_I := [(1, [([(0, 60, 0, 0, 0, 0)], [(52, 1, 0), (2, 2, 0), (0, 0, 0), (1, 3, 0), (1, 0, 60)], [], [], (3, 0), true)], [])]
theorem tu_p136 : tk_ck tt_T tt_sc tt_nt (tu_K 136) tt_nw 4000 tu_t136 tu_k136 = true := by decide +kernel
def tu_t137 : List tk_I := [(1, [([(0, 36, 0, 0, 0, 0)], [(35, 1, 0), (1, 2, 0), (1, 3, 0), (1, 0, 36)], [], [], (3, 0), true)], [])]
theorem tu_p137 : tk_ck tt_T tt_sc tt_nt (tu_K 137) tt_nw 4000 tu_t137 tu_k137 = true := by decide +kernel
def tu_t138 : List tk_I := [(1, [([(0, 730, 0, 0, 0, 0)], [(33, 1, 0), (1, 2, 0), (1, 3, 0), (1, 0, 730)], [], [], (3, 0), true)], [])]
theorem tu_p138 : tk_ck tt_T tt_sc tt_nt (tu_K 138) tt_nw 4000 tu_t138 tu_k138 = true := by decide +kernel
def tu_t141 : List tk_I := [(138, [], [])]
theorem tu_p141 : tk_ck tt_T tt_sc tt_nt (tu_K 141) tt_nw 4000 tu_t141 tu_k141 = true := by decide +kernel
def tu_t142 : List tk_I := [(1, [([(0, 1094, 0, 0, 0, 0)], [(31, 1, 0), (1, 2, 0)], [], [], (2, 0), true)], []), (81, [], []), (81, [], []), (81, [], [])]
theorem tu_p142 : tk_ck tt_T tt_sc tt_nt (tu_K 142) tt_nw 4000 tu_t142 tu_k142 = true := by decide +kernel
def tu_t144 : List tk_I := [(86, [], []), (86, [], []), (1, [([(0, 120, 0, 0, 0, 0)], [(38, 1, 0), (21, 2, 0), (31, 3, 0), (1, 4, 0), (1, 9, 0), (1, 10, 0), (0, 0, 0), (0, 0, 0)], [], [((38, 1, 0), (1, 0, 6), (36, 7, 0)), ((38, 1, 0), (1, 0, 5), (36, 5, 0))], (10, 0), true)], []), (86, [], []), (0, [], []), (137, [], []), (86, [], []), (0, [], []), (137, [], [])]
theorem tu_p144 : tk_ck tt_T tt_sc tt_nt (tu_K 144) tt_nw 4000 tu_t144 tu_k144 = true := by decide +kernel
def tu_t146 : List tk_I := [(1, [([((-2147483648), 2147483647, 0, 0, 0, 0), (0, 36, 0, 0, 0, 0)], [(36, 1, 0), (31, 2, 0), (21, 3, 0), (1, 4, 0), (35, 5, 0), (1, 6, 0), (1, 7, 0), (1, 8, 0), (0, 0, 0)], [], [], (8, 0), true)], []), (0, [], []), (87, [], []), (87, [], [])]
theorem tu_p146 : tk_ck tt_T tt_sc tt_nt (tu_K 146) tt_nw 4000 tu_t146 tu_k146 = true := by decide +kernel
def tu_t148 : List tk_I := [(91, [], [])]
theorem tu_p148 : tk_ck tt_T tt_sc tt_nt (tu_K 148) tt_nw 4000 tu_t148 tu_k148 = true := by decide +kernel
def tu_t149 : List tk_I := [(94, [], [])]
theorem tu_p149 : tk_ck tt_T tt_sc tt_nt (tu_K 149) tt_nw 4000 tu_t149 tu_k149 = true := by decide +kernel
def tu_t150 : List tk_I := [(0, [], []), (0, [], []), (0, [], []), (0, [], []), (0, [], []), (87, [], []), (87, [], [])]
theorem tu_p150 : tk_ck tt_T tt_sc tt_nt (tu_K 150) tt_nw 4000 tu_t150 tu_k150 = true := by decide +kernel
def tu_t151 : List tk_I := [(0, [], []), (0, [], []), (0, [], []), (0, [], []), (0, [], []), (75, [], []), (0, [], []), (0, [], [])]
theorem tu_p151 : tk_ck tt_T tt_sc tt_nt (tu_K 151) tt_nw 4000 tu_t151 tu_k151 = true := by decide +kernel
def tu_t152 : List tk_I := [(0, [], []), (76, [], []), (1, [([((-1), 119, 0, 0, 0, 0), (0, 120, 0, 0, 0, 0)], [(10, 1, 0), (1, 2, 0), (1, 3, 0), (1, 9, 0), (1, 10, 0)], [], [((10, 1, 0), (1, 0, 6), (26, 7, 0)), ((17, 4, 0), (1, 0, 1), (1, 5, 0)), ((10, 1, 0), (1, 0, 2), (17, 4, 0))], (10, 0), true)], []), (76, [], []), (0, [], []), (0, [], []), (137, [], []), (76, [], [])]
theorem tu_p152 : tk_ck tt_T tt_sc tt_nt (tu_K 152) tt_nw 4000 tu_t152 tu_k152 = true := by decide +kernel
def tu_t153 : List tk_I := [(1, [([((-2147483648), 2147483647, 0, 0, 0, 0), (0, 119, 0, 0, 0, 0), (1, 120, 0, 0, 0, 0)], [(10, 1, 0), (1, 2, 0), (1, 3, 0), (1, 4, 0), (1, 5, 0), (1, 6, 0), (1, 7, 0)], [], [], (7, 0), true)], []), (0, [], []), (0, [], []), (0, [], []), (137, [], []), (0, [], []), (0, [], []), (137, [], [])]
theorem tu_p153 : tk_ck tt_T tt_sc tt_nt (tu_K 153) tt_nw 4000 tu_t153 tu_k153 = true := by decide +kernel
def tu_t154 : List tk_I := [(1, [([(0, 120, 0, 0, 0, 0)], [(10, 1, 0), (1, 2, 0), (1, 3, 0)], [], [], (3, 0), true)], []), (0, [], []), (0, [], []), (86, [], []), (0, [], []), (137, [], []), (0, [], []), (86, [], []), (0, [], []), (137, [], [])]
theorem tu_p154 : tk_ck tt_T tt_sc tt_nt (tu_K 154) tt_nw 4000 tu_t154 tu_k154 = true := by decide +kernel
def tu_t159 : List tk_I := [(0, [], []), (0, [], []), (89, [], [])]
theorem tu_p159 : tk_ck tt_T tt_sc tt_nt (tu_K 159) tt_nw 4000 tu_t159 tu_k159 = true := by decide +kernel
def tu_t160 : List tk_I := [(0, [], []), (0, [], []), (79, [], []), (79, [], []), (0, [], []), (0, [], []), (0, [], []), (137, [], []), (89, [], []), (0, [], []), (0, [], []), (137, [], []), (89, [], [])]
theorem tu_p160 : tk_ck tt_T tt_sc tt_nt (tu_K 160) tt_nw 4000 tu_t160 tu_k160 = true := by decide +kernel
def tu_t161 : List tk_I := [(0, [], []), (0, [], []), (0, [], []), (79, [], []), (79, [], []), (0, [], []), (0, [], []), (0, [], []), (137, [], []), (89, [], []), (0, [], []), (0, [], []), (137, [], []), (89, [], []), (83, [], []), (0, [], []), (89, [], []), (83, [], []), (0, [], []), (89, [], [])]
theorem tu_p161 : tk_ck tt_T tt_sc tt_nt (tu_K 161) tt_nw 4000 tu_t161 tu_k161 = true := by decide +kernel
def tu_t163 : List tk_I := [(1, [([((-2147483648), 2147483647, 0, 0, 0, 0), (0, 6, 0, 0, 0, 0)], [(10, 1, 0), (1, 2, 0), (1, 3, 0), (1, 4, 0), (1, 5, 0), (0, 0, 0)], [], [], (5, 0), true)], []), (96, [], [])]
theorem tu_p163 : tk_ck tt_T tt_sc tt_nt (tu_K 163) tt_nw 4000 tu_t163 tu_k163 = true := by decide +kernel
def tu_t164 : List tk_I := [(1, [([((-2147483648), 2147483647, 0, 0, 0, 0), (0, 730, 0, 0, 0, 0)], [(10, 1, 0), (1, 2, 0), (1, 3, 0), (1, 4, 0), (1, 5, 0), (1, 6, 0)], [], [], (6, 0), true)], []), (91, [], [])]
theorem tu_p164 : tk_ck tt_T tt_sc tt_nt (tu_K 164) tt_nw 4000 tu_t164 tu_k164 = true := by decide +kernel
def tu_t165 : List tk_I := [(0, [], []), (0, [], []), (0, [], []), (0, [], []), (87, [], []), (87, [], []), (0, [], []), (0, [], []), (0, [], []), (87, [], []), (87, [], [])]
theorem tu_p165 : tk_ck tt_T tt_sc tt_nt (tu_K 165) tt_nw 4000 tu_t165 tu_k165 = true := by decide +kernel
def tu_t166 : List tk_I := [(0, [], []), (0, [], []), (78, [], []), (78, [], []), (0, [], []), (0, [], []), (137, [], [])]
theorem tu_p166 : tk_ck tt_T tt_sc tt_nt (tu_K 166) tt_nw 4000 tu_t166 tu_k166 = true := by decide +kernel
def tu_t167 : List tk_I := [(108, [], [])]
theorem tu_p167 : tk_ck tt_T tt_sc tt_nt (tu_K 167) tt_nw 4000 tu_t167 tu_k167 = true := by decide +kernel
def tu_t168 : List tk_I := [(0, [], []), (80, [], [])]
theorem tu_p168 : tk_ck tt_T tt_sc tt_nt (tu_K 168) tt_nw 4000 tu_t168 tu_k168 = true := by decide +kernel
def tu_t170 : List tk_I := [(116, [], []), (0, [], []), (0, [], [])]
theorem tu_p170 : tk_ck tt_T tt_sc tt_nt (tu_K 170) tt_nw 4000 tu_t170 tu_k170 = true := by decide +kernel
def tu_t171 : List tk_I := [(119, [], []), (120, [], [])]
theorem tu_p171 : tk_ck tt_T tt_sc tt_nt (tu_K 171) tt_nw 4000 tu_t171 tu_k171 = true := by decide +kernel
def tu_t172 : List tk_I := [(0, [], []), (0, [], []), (0, [], []), (0, [], []), (0, [], []), (119, [], []), (0, [], []), (123, [], [])]
theorem tu_p172 : tk_ck tt_T tt_sc tt_nt (tu_K 172) tt_nw 4000 tu_t172 tu_k172 = true := by decide +kernel
