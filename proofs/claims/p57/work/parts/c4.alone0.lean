set_option maxRecDepth 100000 in
theorem al_p1 : tl_pts tt_T tt_sc tt_nt (tu_K 433) tt_nw 8000 tu_k433 29 ((al_rs.drop 0).take 32) al_t1 = true := by decide +kernel
