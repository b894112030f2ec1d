/-! ===== keep and back, at one place, by what is kept there ===== -/
section TI
variable {l : Launch} {D : va_G} {A : Nat → Prop}
theorem tvK0_c : tx_Con l D A tvK0_k := tk_ck.ok tw_V tw_LV tw_Ts_good (tx_Sc A) ty_Tx ty_Ks te_NV (tw_mv (by decide) (by decide)) tvK0_p
theorem tvK1_c : tx_Con l D A tvK1_k := tk_ck.ok tw_V tw_LV tw_Ts_good (tx_Sc A) ty_Tx ty_Ks te_NV (tw_mv (by decide) (by decide)) tvK1_p
theorem tvK2_c : tx_Con l D A tvK2_k := tk_ck.ok tw_V tw_LV tw_Ts_good (tx_Sc A) ty_Tx ty_Ks te_NV (tw_mv (by decide) (by decide)) tvK2_p
theorem tvyl_c : tx_Con l D A tvyl_k := tk_ck.ok tw_V tw_LV tw_Ts_good (tx_Sc A) ty_Tx ty_Ks te_NV (tw_mv (by decide) (by decide)) tvyl_p
theorem tvyh_c : tx_Con l D A tvyh_k := tk_ck.ok tw_V tw_LV tw_Ts_good (tx_Sc A) ty_Tx ty_Ks te_NV (tw_mv (by decide) (by decide)) tvyh_p
theorem tvN0_c : tx_Con l D A tvN0_k := tk_ck.ok tw_V tw_LV tw_Ts_good (tx_Sc A) ty_Tx ty_Ks te_NV (tw_mv (by decide) (by decide)) tvN0_p
theorem tvN1_c : tx_Con l D A tvN1_k := tk_ck.ok tw_V tw_LV tw_Ts_good (tx_Sc A) ty_Tx ty_Ks te_NV (tw_mv (by decide) (by decide)) tvN1_p
theorem tvN2_c : tx_Con l D A tvN2_k := tk_ck.ok tw_V tw_LV tw_Ts_good (tx_Sc A) ty_Tx ty_Ks te_NV (tw_mv (by decide) (by decide)) tvN2_p
theorem tvzl_c : tx_Con l D A tvzl_k := tk_ck.ok tw_V tw_LV tw_Ts_good (tx_Sc A) ty_Tx ty_Ks te_NV (tw_mv (by decide) (by decide)) tvzl_p
theorem tvzh_c : tx_Con l D A tvzh_k := tk_ck.ok tw_V tw_LV tw_Ts_good (tx_Sc A) ty_Tx ty_Ks te_NV (tw_mv (by decide) (by decide)) tvzh_p
theorem tvM0_c : tx_Con l D A tvM0_k := tk_ck.ok tw_V tw_LV tw_Ts_good (tx_Sc A) ty_Tx ty_Ks te_NV (tw_mv (by decide) (by decide)) tvM0_p
theorem tvM1_c : tx_Con l D A tvM1_k := tk_ck.ok tw_V tw_LV tw_Ts_good (tx_Sc A) ty_Tx ty_Ks te_NV (tw_mv (by decide) (by decide)) tvM1_p
theorem tvM2_c : tx_Con l D A tvM2_k := tk_ck.ok tw_V tw_LV tw_Ts_good (tx_Sc A) ty_Tx ty_Ks te_NV (tw_mv (by decide) (by decide)) tvM2_p
theorem tvS0_c : tx_Con l D A tvS0_k := tk_ck.ok tw_V tw_LV tw_Ts_good (tx_Sc A) ty_Tx tv_Ks te_NV (tw_mv (by decide) (by decide)) tvS0_p
theorem tvS1_c : tx_Con l D A tvS1_k := tk_ck.ok tw_V tw_LV tw_Ts_good (tx_Sc A) ty_Tx tv_Ks te_NV (tw_mv (by decide) (by decide)) tvS1_p
theorem tvS2_c : tx_Con l D A tvS2_k := tk_ck.ok tw_V tw_LV tw_Ts_good (tx_Sc A) ty_Tx tv_Ks te_NV (tw_mv (by decide) (by decide)) tvS2_p
theorem tvE0_c : ty_Con l D A tvE0_k (tl_JP (13, 14, 15)) (tl_JZ (13, 14, 15)) := tl_vck.ok tw_V tw_LV tw_Ts_good (tx_Sc A) ty_Tx ty_Ks te_NV (tw_mv (by decide) (by decide)) (fun q hq => by
  rw [List.mem_singleton] at hq
  subst hq
  exact tc10_con te_NV) tvE0_p
theorem tvE1_c : ty_Con l D A tvE1_k (tl_JP (13, 14, 15)) (tl_JZ (13, 14, 15)) := tl_vck.ok tw_V tw_LV tw_Ts_good (tx_Sc A) ty_Tx ty_Ks te_NV (tw_mv (by decide) (by decide)) (fun q hq => by
  rw [List.mem_singleton] at hq
  subst hq
  exact tc20_con te_NV) tvE1_p
theorem tvE2_c : ty_Con l D A tvE2_k (tl_JP (13, 14, 15)) (tl_JZ (13, 14, 15)) := tl_vck.ok tw_V tw_LV tw_Ts_good (tx_Sc A) ty_Tx ty_Ks te_NV (tw_mv (by decide) (by decide)) (fun q hq => by
  rw [List.mem_singleton] at hq
  subst hq
  exact tc30_con te_NV) tvE2_p
theorem tvG0_c : ty_Con l D A tvG0_k (tl_JP (13, 14, 15)) (tl_JZ (13, 14, 15)) := tl_vck.ok tw_V tw_LV tw_Ts_good (tx_Sc A) ty_Tx ty_Ks te_NV (tw_mv (by decide) (by decide)) (fun q hq => by
  rw [List.mem_singleton] at hq
  subst hq
  exact tc01_con te_NV) tvG0_p
theorem tvG1_c : ty_Con l D A tvG1_k (tl_JP (13, 14, 15)) (tl_JZ (13, 14, 15)) := tl_vck.ok tw_V tw_LV tw_Ts_good (tx_Sc A) ty_Tx ty_Ks te_NV (tw_mv (by decide) (by decide)) (fun q hq => by
  rw [List.mem_singleton] at hq
  subst hq
  exact tc02_con te_NV) tvG1_p
theorem tvG2_c : ty_Con l D A tvG2_k (tl_JP (13, 14, 15)) (tl_JZ (13, 14, 15)) := tl_vck.ok tw_V tw_LV tw_Ts_good (tx_Sc A) ty_Tx ty_Ks te_NV (tw_mv (by decide) (by decide)) (fun q hq => by
  rw [List.mem_singleton] at hq
  subst hq
  exact tc03_con te_NV) tvG2_p
end TI
