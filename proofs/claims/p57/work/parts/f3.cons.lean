/-! ===== these contracts hold ===== -/
section TF
variable {l : Launch} {D : va_G} {A : Nat → Prop}
abbrev ty_Con (l : Launch) (D : va_G) (A : Nat → Prop) (k : tk_K) (P : (Nat → Int) → tk_B → va_W → Prop) (Z : (Nat → Int) → tk_B → va_W → tk_A → tk_B → va_W → Heap → Heap → Prop) : Prop := tl_Con tt_T tw_U tw_Ts tw_NWs tw_TXs (tx_St A) l D tw_cl A k P Z
theorem ty_Tx (s : State) (H : Heap) (ad : Nat → Nat) (h : tk_Dx tw_NWs tw_TXs (tx_St A) ad s H) (k : Nat) (hk : k < tt_nt) : ∃ cell : Cell, H[ad k]? = some cell ∧ cell.vm.isStatics = false ∧ s.vm.findClass (tw_U.1 tt_sc) = some cell.cls := tx_Tx h k hk
theorem ty_Ks (id : Nat) (k : tk_K) (h : tu_K 437 id = some k) : tx_Con l D A k := tu_Ks (tu_q437 te_NV) id k h
theorem tvl_c : tx_Con l D A tvl_k := tk_ck.ok tw_V tw_LV tw_Ts_good (tx_Sc A) ty_Tx ty_Ks te_NV (tw_mv (by decide) (by decide)) tvl_p
theorem tv_Ks (id : Nat) (k : tk_K) (h : tv_K id = some k) : tx_Con l D A k := by
  unfold tv_K at h
  split at h
  · cases h
    exact tvl_c
  · exact ty_Ks id k h
theorem tvt_c : tx_Con l D A tvt_k := tk_ck.ok tw_V tw_LV tw_Ts_good (tx_Sc A) ty_Tx tv_Ks te_NV (tw_mv (by decide) (by decide)) tvt_p
theorem tvb_c : tx_Con l D A tvb_k := tk_ck.ok tw_V tw_LV tw_Ts_good (tx_Sc A) ty_Tx tv_Ks te_NV (tw_mv (by decide) (by decide)) tvb_p
theorem tvu_c : ty_Con l D A tvu_k (tl_JP (3, 5, 6)) (tl_JZ (3, 5, 6)) := tl_cck.ok tw_V tw_LV tw_Ts_good (tx_Sc A) ty_Tx ty_Ks te_NV (tw_mv (by decide) (by decide)) tvu_p
theorem tvm_c : ty_Con l D A tvm_k (tl_JP (8, 10, 11)) (tl_JZ (8, 10, 11)) := tl_cck.ok tw_V tw_LV tw_Ts_good (tx_Sc A) ty_Tx ty_Ks te_NV (tw_mv (by decide) (by decide)) tvm_p
theorem ty_th : ∀ q ∈ [(th_k, ((6, 8, 9) : tl_Y))], ty_Con l D A q.1 (tl_JP q.2) (tl_JZ q.2) := fun q hq => by
  rw [List.mem_singleton] at hq
  subst hq
  exact th_con te_NV
theorem tvr_c : ty_Con l D A tvr_k (tl_JP (6, 7, 8)) (tl_JZ (6, 7, 8)) := tl_vck.ok tw_V tw_LV tw_Ts_good (tx_Sc A) ty_Tx ty_Ks te_NV (tw_mv (by decide) (by decide)) ty_th tvr_p
theorem tve_c : ty_Con l D A tve_k (tl_JP (5, 6, 7)) (tl_JZ (5, 6, 7)) := tl_vck.ok tw_V tw_LV tw_Ts_good (tx_Sc A) ty_Tx ty_Ks te_NV (tw_mv (by decide) (by decide)) ty_th tve_p
theorem tvk_c : ty_Con l D A tvk_k (tl_JP (13, 14, 15)) (tl_JZ (13, 14, 15)) := by
  refine tl_vck.ok tw_V tw_LV tw_Ts_good (tx_Sc A) ty_Tx ty_Ks te_NV (tw_mv (by decide) (by decide)) (fun q hq => ?_) tvk_p
  rcases List.mem_cons.mp hq with rfl | hq
  · exact tc03_con te_NV
  rcases List.mem_cons.mp hq with rfl | hq
  · exact tc02_con te_NV
  rw [List.mem_singleton] at hq
  subst hq
  exact tc01_con te_NV
theorem tvB_c : ty_Con l D A tvB_k (tl_JP (13, 14, 15)) (tl_JZ (13, 14, 15)) := by
  refine tl_vck.ok tw_V tw_LV tw_Ts_good (tx_Sc A) ty_Tx ty_Ks te_NV (tw_mv (by decide) (by decide)) (fun q hq => ?_) tvB_p
  rcases List.mem_cons.mp hq with rfl | hq
  · exact tc30_con te_NV
  rcases List.mem_cons.mp hq with rfl | hq
  · exact tc20_con te_NV
  rw [List.mem_singleton] at hq
  subst hq
  exact tc10_con te_NV
/-- rooms by end -/
def ty_RZ : (Nat → Int) → tk_B → va_W → tk_A → tk_B → va_W → Heap → Heap → Prop := fun _ _ _ w _ _ H H' => tl_rm H H' w.2.2.2.2.1.1 w.2.2.2.2.1.2.toNat
theorem tvw_c : ty_Con l D A tvw_k (fun _ _ _ => True) ty_RZ := tl_ck.ok tw_V tw_LV tw_Ts_good (tx_Sc A) ty_Tx ty_Ks te_NV (tw_mv (by decide) (by decide)) tvw_p
theorem tvs_c : ty_Con l D A tvs_k (fun _ _ _ => True) ty_RZ := tl_ck.ok tw_V tw_LV tw_Ts_good (tx_Sc A) ty_Tx ty_Ks te_NV (tw_mv (by decide) (by decide)) tvs_p
theorem tvq_c : ty_Con l D A tvq_k (fun _ _ _ => True) ty_RZ := tl_ck.ok tw_V tw_LV tw_Ts_good (tx_Sc A) ty_Tx ty_Ks te_NV (tw_mv (by decide) (by decide)) tvq_p
theorem tvp_c : ty_Con l D A tvp_k (fun _ _ _ => True) ty_RZ := tl_ck.ok tw_V tw_LV tw_Ts_good (tx_Sc A) ty_Tx ty_Ks te_NV (tw_mv (by decide) (by decide)) tvp_p
end TF
