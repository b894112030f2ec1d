/-! ===== row and write, by what stands in the slot ===== -/
section TI
variable {l : Launch} {D : va_G} {A : Nat → Prop}
theorem tvXa_c : tx_Con l D A tvXa_k := tk_ck.ok tw_V tw_LV tw_Ts_good (tx_Sc A) ty_Tx ty_Ks te_NV (tw_mv (by decide) (by decide)) tvXa_p
theorem tvXb_c : tx_Con l D A tvXb_k := tk_ck.ok tw_V tw_LV tw_Ts_good (tx_Sc A) ty_Tx ty_Ks te_NV (tw_mv (by decide) (by decide)) tvXb_p
theorem tvXc_c : tx_Con l D A tvXc_k := tk_ck.ok tw_V tw_LV tw_Ts_good (tx_Sc A) ty_Tx ty_Ks te_NV (tw_mv (by decide) (by decide)) tvXc_p
theorem tvXd_c : tx_Con l D A tvXd_k := tk_ck.ok tw_V tw_LV tw_Ts_good (tx_Sc A) ty_Tx ty_Ks te_NV (tw_mv (by decide) (by decide)) tvXd_p
theorem tvXe_c : tx_Con l D A tvXe_k := tk_ck.ok tw_V tw_LV tw_Ts_good (tx_Sc A) ty_Tx ty_Ks te_NV (tw_mv (by decide) (by decide)) tvXe_p
theorem tvXf_c : tx_Con l D A tvXf_k := tk_ck.ok tw_V tw_LV tw_Ts_good (tx_Sc A) ty_Tx ty_Ks te_NV (tw_mv (by decide) (by decide)) tvXf_p
theorem tvYa_c : tx_Con l D A tvYa_k := tk_ck.ok tw_V tw_LV tw_Ts_good (tx_Sc A) ty_Tx ty_Ks te_NV (tw_mv (by decide) (by decide)) tvYa_p
theorem tvYb_c : tx_Con l D A tvYb_k := tk_ck.ok tw_V tw_LV tw_Ts_good (tx_Sc A) ty_Tx ty_Ks te_NV (tw_mv (by decide) (by decide)) tvYb_p
theorem tvYc_c : tx_Con l D A tvYc_k := tk_ck.ok tw_V tw_LV tw_Ts_good (tx_Sc A) ty_Tx ty_Ks te_NV (tw_mv (by decide) (by decide)) tvYc_p
theorem tvYd_c : tx_Con l D A tvYd_k := tk_ck.ok tw_V tw_LV tw_Ts_good (tx_Sc A) ty_Tx ty_Ks te_NV (tw_mv (by decide) (by decide)) tvYd_p
theorem tvYe_c : tx_Con l D A tvYe_k := tk_ck.ok tw_V tw_LV tw_Ts_good (tx_Sc A) ty_Tx ty_Ks te_NV (tw_mv (by decide) (by decide)) tvYe_p
theorem tvYf_c : tx_Con l D A tvYf_k := tk_ck.ok tw_V tw_LV tw_Ts_good (tx_Sc A) ty_Tx ty_Ks te_NV (tw_mv (by decide) (by decide)) tvYf_p
theorem tvR0_c : tx_Con l D A tvR0_k := tk_ck.ok tw_V tw_LV tw_Ts_good (tx_Sc A) ty_Tx ty_Ks te_NV (tw_mv (by decide) (by decide)) tvR0_p
theorem tvR1_c : tx_Con l D A tvR1_k := tk_ck.ok tw_V tw_LV tw_Ts_good (tx_Sc A) ty_Tx ty_Ks te_NV (tw_mv (by decide) (by decide)) tvR1_p
theorem tvR2_c : tx_Con l D A tvR2_k := tk_ck.ok tw_V tw_LV tw_Ts_good (tx_Sc A) ty_Tx ty_Ks te_NV (tw_mv (by decide) (by decide)) tvR2_p
theorem tvR3_c : tx_Con l D A tvR3_k := tk_ck.ok tw_V tw_LV tw_Ts_good (tx_Sc A) ty_Tx ty_Ks te_NV (tw_mv (by decide) (by decide)) tvR3_p
theorem tvQ0_c : tx_Con l D A tvQ0_k := tk_ck.ok tw_V tw_LV tw_Ts_good (tx_Sc A) ty_Tx ty_Ks te_NV (tw_mv (by decide) (by decide)) tvQ0_p
theorem tvQ1_c : tx_Con l D A tvQ1_k := tk_ck.ok tw_V tw_LV tw_Ts_good (tx_Sc A) ty_Tx ty_Ks te_NV (tw_mv (by decide) (by decide)) tvQ1_p
theorem tvQ2_c : tx_Con l D A tvQ2_k := tk_ck.ok tw_V tw_LV tw_Ts_good (tx_Sc A) ty_Tx ty_Ks te_NV (tw_mv (by decide) (by decide)) tvQ2_p
theorem tvQ3_c : tx_Con l D A tvQ3_k := tk_ck.ok tw_V tw_LV tw_Ts_good (tx_Sc A) ty_Tx ty_Ks te_NV (tw_mv (by decide) (by decide)) tvQ3_p
theorem tvUl_c : tx_Con l D A tvUl_k := tk_ck.ok tw_V tw_LV tw_Ts_good (tx_Sc A) ty_Tx ty_Ks te_NV (tw_mv (by decide) (by decide)) tvUl_p
theorem tvUh_c : tx_Con l D A tvUh_k := tk_ck.ok tw_V tw_LV tw_Ts_good (tx_Sc A) ty_Tx ty_Ks te_NV (tw_mv (by decide) (by decide)) tvUh_p
theorem tvU0_c : tx_Con l D A tvU0_k := tk_ck.ok tw_V tw_LV tw_Ts_good (tx_Sc A) ty_Tx ty_Ks te_NV (tw_mv (by decide) (by decide)) tvU0_p
theorem tvUn_c : tx_Con l D A tvUn_k := tk_ck.ok tw_V tw_LV tw_Ts_good (tx_Sc A) ty_Tx ty_Ks te_NV (tw_mv (by decide) (by decide)) tvUn_p
theorem tvUb_c : tx_Con l D A tvUb_k := tk_ck.ok tw_V tw_LV tw_Ts_good (tx_Sc A) ty_Tx ty_Ks te_NV (tw_mv (by decide) (by decide)) tvUb_p
theorem tvUi_c : tx_Con l D A tvUi_k := tk_ck.ok tw_V tw_LV tw_Ts_good (tx_Sc A) ty_Tx ty_Ks te_NV (tw_mv (by decide) (by decide)) tvUi_p
theorem tvVl_c : tx_Con l D A tvVl_k := tk_ck.ok tw_V tw_LV tw_Ts_good (tx_Sc A) ty_Tx ty_Ks te_NV (tw_mv (by decide) (by decide)) tvVl_p
theorem tvVh_c : tx_Con l D A tvVh_k := tk_ck.ok tw_V tw_LV tw_Ts_good (tx_Sc A) ty_Tx ty_Ks te_NV (tw_mv (by decide) (by decide)) tvVh_p
theorem tvV0_c : tx_Con l D A tvV0_k := tk_ck.ok tw_V tw_LV tw_Ts_good (tx_Sc A) ty_Tx ty_Ks te_NV (tw_mv (by decide) (by decide)) tvV0_p
theorem tvVn_c : tx_Con l D A tvVn_k := tk_ck.ok tw_V tw_LV tw_Ts_good (tx_Sc A) ty_Tx ty_Ks te_NV (tw_mv (by decide) (by decide)) tvVn_p
theorem tvVb_c : tx_Con l D A tvVb_k := tk_ck.ok tw_V tw_LV tw_Ts_good (tx_Sc A) ty_Tx ty_Ks te_NV (tw_mv (by decide) (by decide)) tvVb_p
theorem tvVi_c : tx_Con l D A tvVi_k := tk_ck.ok tw_V tw_LV tw_Ts_good (tx_Sc A) ty_Tx ty_Ks te_NV (tw_mv (by decide) (by decide)) tvVi_p
end TI
