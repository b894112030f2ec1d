set_option maxRecDepth 100000 in
theorem al_p3 : tl_pts tt_T tt_sc tt_nt (tu_K 433) tt_nw 8000 tu_k433 29 ((al_rs.drop 64).take 32) al_t3 = true := by decide +kernel
