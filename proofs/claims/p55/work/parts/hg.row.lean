/-! ===== row, by what its ints are ===== -/
section TI
variable {l : Launch} {D : va_G} {A : Nat → Prop}
theorem tvXa_c : tx_Con l D A tvXa_k := tk_ck.ok tw_V tw_LV tw_Ts_good (tx_Sc A) ty_Tx ty_Ks te_NV (tw_mv (by decide) (by decide)) tvXa_p
theorem tvXb_c : tx_Con l D A tvXb_k := tk_ck.ok tw_V tw_LV tw_Ts_good (tx_Sc A) ty_Tx ty_Ks te_NV (tw_mv (by decide) (by decide)) tvXb_p
theorem tvXc_c : tx_Con l D A tvXc_k := tk_ck.ok tw_V tw_LV tw_Ts_good (tx_Sc A) ty_Tx ty_Ks te_NV (tw_mv (by decide) (by decide)) tvXc_p
theorem tvXd_c : tx_Con l D A tvXd_k := tk_ck.ok tw_V tw_LV tw_Ts_good (tx_Sc A) ty_Tx ty_Ks te_NV (tw_mv (by decide) (by decide)) tvXd_p
theorem tvXe_c : tx_Con l D A tvXe_k := tk_ck.ok tw_V tw_LV tw_Ts_good (tx_Sc A) ty_Tx ty_Ks te_NV (tw_mv (by decide) (by decide)) tvXe_p
theorem tvXf_c : tx_Con l D A tvXf_k := tk_ck.ok tw_V tw_LV tw_Ts_good (tx_Sc A) ty_Tx ty_Ks te_NV (tw_mv (by decide) (by decide)) tvXf_p
theorem tvXg_c : tx_Con l D A tvXg_k := tk_ck.ok tw_V tw_LV tw_Ts_good (tx_Sc A) ty_Tx ty_Ks te_NV (tw_mv (by decide) (by decide)) tvXg_p
theorem tvYa_c : tx_Con l D A tvYa_k := tk_ck.ok tw_V tw_LV tw_Ts_good (tx_Sc A) ty_Tx ty_Ks te_NV (tw_mv (by decide) (by decide)) tvYa_p
theorem tvYb_c : tx_Con l D A tvYb_k := tk_ck.ok tw_V tw_LV tw_Ts_good (tx_Sc A) ty_Tx ty_Ks te_NV (tw_mv (by decide) (by decide)) tvYb_p
theorem tvYc_c : tx_Con l D A tvYc_k := tk_ck.ok tw_V tw_LV tw_Ts_good (tx_Sc A) ty_Tx ty_Ks te_NV (tw_mv (by decide) (by decide)) tvYc_p
theorem tvYd_c : tx_Con l D A tvYd_k := tk_ck.ok tw_V tw_LV tw_Ts_good (tx_Sc A) ty_Tx ty_Ks te_NV (tw_mv (by decide) (by decide)) tvYd_p
theorem tvYe_c : tx_Con l D A tvYe_k := tk_ck.ok tw_V tw_LV tw_Ts_good (tx_Sc A) ty_Tx ty_Ks te_NV (tw_mv (by decide) (by decide)) tvYe_p
theorem tvYf_c : tx_Con l D A tvYf_k := tk_ck.ok tw_V tw_LV tw_Ts_good (tx_Sc A) ty_Tx ty_Ks te_NV (tw_mv (by decide) (by decide)) tvYf_p
theorem tvYg_c : tx_Con l D A tvYg_k := tk_ck.ok tw_V tw_LV tw_Ts_good (tx_Sc A) ty_Tx ty_Ks te_NV (tw_mv (by decide) (by decide)) tvYg_p
end TI
