def tc30_F : List (Nat × Nat × Nat) := [(82, 0, 0), (83, 0, 119), (84, 0, 119), (85, 0, 119), (86, 0, 119)]
def tc30_w : tk_A := ([], [], [], [], (0, 0), true)
def tc30_k : tk_K := (140, [(1, 1000000000, 0, 0, 0, 0), (1, 1000000000, 0, 0, 0, 0), (0, 120, 0, 0, 0, 0), (1, 1000000000, 0, 0, 0, 0), (1, 1000000000, 0, 0, 0, 0)], [(53, 1, 0), (1, 0, 3), (1, 0, 0)], [((53, 1, 0), (1, 0, 52), (92, 2, 0)), ((92, 2, 0), (1, 0, 3), (1, 3, 0)), ((53, 1, 0), (1, 0, 53), (93, 4, 0)), ((53, 1, 0), (1, 0, 54), (94, 5, 0))], [tc30_w], tc30_F)
def tc30_S0 : tk_S := ([(0, 0, 0, 0, 0, 0), (1, 1000000000, 0, 0, 0, 0), (1, 1000000000, 0, 0, 0, 0), (0, 120, 0, 0, 0, 0), (1, 1000000000, 0, 0, 0, 0), (1, 1000000000, 0, 0, 0, 0)], [(53, 1, 0), (1, 0, 3), (1, 0, 0), (0, 0, 0)], [], [((53, 1, 0), (1, 0, 52), (92, 2, 0)), ((92, 2, 0), (1, 0, 3), (1, 3, 0)), ((53, 1, 0), (1, 0, 53), (93, 4, 0)), ((53, 1, 0), (1, 0, 54), (94, 5, 0))], 0, 0)
def tc30_a_S0 : tk_S := ([(0, 0, 0, 0, 0, 0), (1, 1000000000, 0, 0, 0, 0), (1, 1000000000, 0, 0, 0, 0), (0, 120, 0, 0, 0, 0), (1, 1000000000, 0, 0, 0, 0), (1, 1000000000, 0, 0, 0, 0)], [(53, 1, 0), (1, 0, 3), (1, 0, 0), (0, 0, 0)], [(1, 3, 0), (1, 0, 0), (92, 2, 0)], [((53, 1, 0), (1, 0, 52), (92, 2, 0)), ((92, 2, 0), (1, 0, 3), (1, 3, 0)), ((53, 1, 0), (1, 0, 53), (93, 4, 0)), ((53, 1, 0), (1, 0, 54), (94, 5, 0))], 0, 0)
theorem tc30_a : tk_run tt_T [] tt_sc tt_nt (tu_K 437) tt_nw 200 140 [11] [] [(0, tc30_S0)] [] = some ([(11, tc30_a_S0)], []) := rfl
def tc30_c : tk_S := ([(0, 0, 0, 0, 0, 0), (1, 1000000000, 0, 0, 0, 0), (1, 1000000000, 0, 0, 0, 0), (0, 120, 0, 0, 0, 0), (1, 1000000000, 0, 0, 0, 0), (1, 1000000000, 0, 0, 0, 0)], [(53, 1, 0), (1, 0, 3), (1, 0, 0), (0, 0, 0)], [], [((92, 2, 0), (1, 0, 0), (1, 3, 0)), ((53, 1, 0), (1, 0, 52), (92, 2, 0)), ((92, 2, 0), (1, 0, 3), (1, 3, 0)), ((53, 1, 0), (1, 0, 53), (93, 4, 0)), ((53, 1, 0), (1, 0, 54), (94, 5, 0))], 0, 0)
def tc30_d_S0 : tk_S := ([(0, 0, 0, 0, 0, 0), (1, 1000000000, 0, 0, 0, 0), (1, 1000000000, 0, 0, 0, 0), (0, 120, 0, 0, 0, 0), (1, 1000000000, 0, 0, 0, 0), (1, 1000000000, 0, 0, 0, 0)], [(53, 1, 0), (1, 0, 3), (1, 0, 0), (1, 0, 0)], [], [((92, 2, 0), (1, 0, 0), (1, 3, 0)), ((53, 1, 0), (1, 0, 52), (92, 2, 0)), ((92, 2, 0), (1, 0, 3), (1, 3, 0)), ((53, 1, 0), (1, 0, 53), (93, 4, 0)), ((53, 1, 0), (1, 0, 54), (94, 5, 0))], 0, 0)
theorem tc30_d : tk_run tt_T [] tt_sc tt_nt (tu_K 437) tt_nw 200 140 [14] [] [(12, tc30_c)] [] = some ([(14, tc30_d_S0)], []) := rfl
def tc30_h : tk_S := ([(0, 0, 0, 0, 0, 0), (1, 1000000000, 0, 0, 0, 0), (1, 1000000000, 0, 0, 0, 0), (0, 120, 0, 0, 0, 0), (1, 1000000000, 0, 0, 0, 0), (1, 1000000000, 0, 0, 0, 0), (0, 120, 0, 0, 0, 0)], [(53, 1, 0), (1, 0, 3), (1, 0, 0), (1, 6, 0)], [], [((92, 2, 0), (1, 0, 0), (1, 3, 0)), ((53, 1, 0), (1, 0, 52), (92, 2, 0)), ((92, 2, 0), (1, 0, 3), (1, 3, 0)), ((53, 1, 0), (1, 0, 53), (93, 4, 0)), ((53, 1, 0), (1, 0, 54), (94, 5, 0))], 0, 0)
def tc30_hw : tk_A := ([(0, 120, 0, 0, 0, 0)], [(53, 1, 0), (1, 0, 3), (1, 0, 0), (1, 6, 0)], [], [((92, 2, 0), (1, 0, 0), (1, 3, 0)), ((53, 1, 0), (1, 0, 52), (92, 2, 0)), ((92, 2, 0), (1, 0, 3), (1, 3, 0)), ((53, 1, 0), (1, 0, 53), (93, 4, 0)), ((53, 1, 0), (1, 0, 54), (94, 5, 0))], (0, 0), true)
def tc30_b_S0 : tk_S := ([(0, 0, 0, 0, 0, 0), (1, 1000000000, 0, 0, 0, 0), (1, 1000000000, 0, 0, 0, 0), (1, 120, 0, 0, 0, 0), (1, 1000000000, 0, 0, 0, 0), (1, 1000000000, 0, 0, 0, 0), (0, 119, 0, 0, 0, 0), ((-120), (-1), 2, 6, 3, 0), (0, 11, 0, 0, 0, 0)], [(53, 1, 0), (1, 0, 3), (1, 0, 0), (1, 6, 0)], [(1, 8, 0), (1, 6, 0), (93, 4, 0)], [((93, 4, 0), (1, 6, 360), (1, 8, 0)), ((92, 2, 0), (1, 0, 0), (1, 3, 0)), ((53, 1, 0), (1, 0, 52), (92, 2, 0)), ((92, 2, 0), (1, 0, 3), (1, 3, 0)), ((53, 1, 0), (1, 0, 53), (93, 4, 0)), ((53, 1, 0), (1, 0, 54), (94, 5, 0))], 0, 0)
def tc30_b_S1 : tk_S := ([(0, 0, 0, 0, 0, 0), (1, 1000000000, 0, 0, 0, 0), (1, 1000000000, 0, 0, 0, 0), (0, 120, 0, 0, 0, 0), (1, 1000000000, 0, 0, 0, 0), (1, 1000000000, 0, 0, 0, 0), (0, 120, 0, 0, 0, 0), (0, 120, 2, 6, 3, 0)], [(53, 1, 0), (1, 0, 3), (1, 0, 0), (1, 6, 0)], [], [((92, 2, 0), (1, 0, 0), (1, 3, 0)), ((53, 1, 0), (1, 0, 52), (92, 2, 0)), ((92, 2, 0), (1, 0, 3), (1, 3, 0)), ((53, 1, 0), (1, 0, 53), (93, 4, 0)), ((53, 1, 0), (1, 0, 54), (94, 5, 0))], 0, 0)
theorem tc30_b : tk_run tt_T [] tt_sc tt_nt (tu_K 437) tt_nw 200 140 [45] [(0, [], [])] [(14, tc30_h)] [] = some ([(45, tc30_b_S0), (118, tc30_b_S1)], []) := rfl
def tc30_e : tk_S := ([(0, 0, 0, 0, 0, 0), (1, 1000000000, 0, 0, 0, 0), (1, 1000000000, 0, 0, 0, 0), (1, 120, 0, 0, 0, 0), (1, 1000000000, 0, 0, 0, 0), (1, 1000000000, 0, 0, 0, 0), (0, 119, 0, 0, 0, 0), ((-120), (-1), 2, 6, 3, 0), (0, 11, 0, 0, 0, 0)], [(53, 1, 0), (1, 0, 3), (1, 0, 0), (1, 6, 0)], [], [((93, 4, 0), (1, 6, 0), (1, 8, 0)), ((93, 4, 0), (1, 6, 360), (1, 8, 0)), ((92, 2, 0), (1, 0, 0), (1, 3, 0)), ((53, 1, 0), (1, 0, 52), (92, 2, 0)), ((92, 2, 0), (1, 0, 3), (1, 3, 0)), ((53, 1, 0), (1, 0, 53), (93, 4, 0)), ((53, 1, 0), (1, 0, 54), (94, 5, 0))], 0, 0)
def tc30_f_S0 : tk_S := ([(0, 0, 0, 0, 0, 0), (1, 1000000000, 0, 0, 0, 0), (1, 1000000000, 0, 0, 0, 0), (1, 120, 0, 0, 0, 0), (1, 1000000000, 0, 0, 0, 0), (1, 1000000000, 0, 0, 0, 0), (0, 119, 0, 0, 0, 0), ((-120), (-1), 2, 6, 3, 0), (0, 11, 0, 0, 0, 0), (0, 729, 0, 0, 0, 0)], [(53, 1, 0), (1, 0, 3), (1, 0, 0), (1, 6, 0)], [(1, 9, 0), (1, 6, 0), (94, 5, 0)], [((94, 5, 0), (1, 6, 360), (1, 9, 0)), ((93, 4, 0), (1, 6, 0), (1, 8, 0)), ((93, 4, 0), (1, 6, 360), (1, 8, 0)), ((92, 2, 0), (1, 0, 0), (1, 3, 0)), ((53, 1, 0), (1, 0, 52), (92, 2, 0)), ((92, 2, 0), (1, 0, 3), (1, 3, 0)), ((53, 1, 0), (1, 0, 53), (93, 4, 0)), ((53, 1, 0), (1, 0, 54), (94, 5, 0))], 0, 0)
theorem tc30_f : tk_run tt_T [] tt_sc tt_nt (tu_K 437) tt_nw 200 140 [67] [] [(46, tc30_e)] [] = some ([(67, tc30_f_S0)], []) := rfl
def tc30_g : tk_S := ([(0, 0, 0, 0, 0, 0), (1, 1000000000, 0, 0, 0, 0), (1, 1000000000, 0, 0, 0, 0), (1, 120, 0, 0, 0, 0), (1, 1000000000, 0, 0, 0, 0), (1, 1000000000, 0, 0, 0, 0), (0, 119, 0, 0, 0, 0), ((-120), (-1), 2, 6, 3, 0), (0, 11, 0, 0, 0, 0), (0, 729, 0, 0, 0, 0)], [(53, 1, 0), (1, 0, 3), (1, 0, 0), (1, 6, 0)], [], [((94, 5, 0), (1, 6, 0), (1, 9, 0)), ((94, 5, 0), (1, 6, 360), (1, 9, 0)), ((93, 4, 0), (1, 6, 0), (1, 8, 0)), ((93, 4, 0), (1, 6, 360), (1, 8, 0)), ((92, 2, 0), (1, 0, 0), (1, 3, 0)), ((53, 1, 0), (1, 0, 52), (92, 2, 0)), ((92, 2, 0), (1, 0, 3), (1, 3, 0)), ((53, 1, 0), (1, 0, 53), (93, 4, 0)), ((53, 1, 0), (1, 0, 54), (94, 5, 0))], 0, 0)
def tc30_i_S0 : tk_S := ([(0, 0, 0, 0, 0, 0), (1, 1000000000, 0, 0, 0, 0), (1, 1000000000, 0, 0, 0, 0), (1, 120, 0, 0, 0, 0), (1, 1000000000, 0, 0, 0, 0), (1, 1000000000, 0, 0, 0, 0), (0, 119, 0, 0, 0, 0), ((-120), (-1), 2, 6, 3, 0), (0, 11, 0, 0, 0, 0), (0, 729, 0, 0, 0, 0), (1, 1000000000, 0, 0, 0, 0), ((-2147483648), 2147483647, 0, 0, 0, 0), (1, 1000000000, 0, 0, 0, 0), ((-2147483648), 2147483647, 0, 0, 0, 0)], [(53, 1, 0), (1, 0, 3), (1, 0, 0), (1, 6, 1)], [], [((53, 1, 0), (1, 0, 56), (96, 12, 0)), ((53, 1, 0), (1, 0, 55), (95, 10, 0)), ((94, 5, 0), (1, 6, 0), (1, 9, 0)), ((94, 5, 0), (1, 6, 360), (1, 9, 0)), ((93, 4, 0), (1, 6, 0), (1, 8, 0)), ((93, 4, 0), (1, 6, 360), (1, 8, 0)), ((92, 2, 0), (1, 0, 0), (1, 3, 0)), ((53, 1, 0), (1, 0, 52), (92, 2, 0)), ((92, 2, 0), (1, 0, 3), (1, 3, 0)), ((53, 1, 0), (1, 0, 53), (93, 4, 0)), ((53, 1, 0), (1, 0, 54), (94, 5, 0))], 0, 0)
theorem tc30_i : tk_run tt_T [(85, 0, 119), (86, 0, 119)] tt_sc tt_nt (tu_K 437) tt_nw 200 140 [14] [] [(68, tc30_g)] [] = some ([(14, tc30_i_S0)], []) := rfl
set_option maxHeartbeats 8000000 in
theorem tc30_con {l : Launch} {D : va_G} {A : Nat → Prop} (hNV : tx_NV l D A) : tl_Con tt_T tw_U tw_Ts tw_NWs tw_TXs (tx_St A) l D tw_cl A tc30_k tc_P tc_Z := by
  have hKs := tu_Ks (tu_q437 hNV)
  have hTx : ∀ (s : State) (H : Heap) (ad : Nat → Nat), tk_Dx tw_NWs tw_TXs (tx_St A) ad s H → ∀ k, k < tt_nt → ∃ cell : Cell, H[ad k]? = some cell ∧ cell.vm.isStatics = false ∧ s.vm.findClass (tw_U.1 tt_sc) = some cell.cls := fun s H ad h k hk => tx_Tx h k hk
  refine tl_met tw_V (tw_mv (y := 140) (by decide) (by decide)) (show (140 : Nat) ≠ 0 by decide) (Nat.le_of_ble_eq_true rfl) ?_
  intro ρ B ws tys H p e s m args below meth c ls lv hE hP hX hr hlocks hH hk
  have hx := hX.1
  have hb := hX.2.1
  have hP : tl_J2 ws (ρ 2) (ρ 4) (ρ 5) := hP
  have hM0 : tk_mem ρ B 6 ws tc30_S0.2.2.2.1 := hk.2.2.2.2.2.1
  have b2 : 1 ≤ ρ 2 := (hE 2).1
  have b4 : 1 ≤ ρ 4 := (hE 4).1
  have b5 : 1 ≤ ρ 5 := (hE 5).1
  have z0 : ρ 0 = 0 := hk.2.1.2
  have k2 : tl_kd B (ρ 2) 82 := by
    have := tl_kref (κ := 82) (sv := 2) (cv := 0) hM0 (by unfold tc30_S0; exact List.mem_cons_self) (by omega)
    rwa [Int.add_zero] at this
  have k4 : tl_kd B (ρ 4) 83 := by
    have := tl_kref (κ := 83) (sv := 4) (cv := 0) hM0 (by unfold tc30_S0; exact List.mem_cons_of_mem _ (List.mem_cons_of_mem _ List.mem_cons_self)) (by omega)
    rwa [Int.add_zero] at this
  have k5 : tl_kd B (ρ 5) 84 := by
    have := tl_kref (κ := 84) (sv := 5) (cv := 0) hM0 (by unfold tc30_S0; exact List.mem_cons_of_mem _ (List.mem_cons_of_mem _ (List.mem_cons_of_mem _ List.mem_cons_self))) (by omega)
    rwa [Int.add_zero] at this
  have n24 : ρ 2 ≠ ρ 4 := fun q => by rw [q] at k2; exact absurd (k2.one k4) (by decide)
  have n25 : ρ 2 ≠ ρ 5 := fun q => by rw [q] at k2; exact absurd (k2.one k5) (by decide)
  have n45 : ρ 4 ≠ ρ 5 := fun q => by rw [q] at k4; exact absurd (k4.one k5) (by decide)
  -- into the head
  have into : ∀ (o : tk_S) (a : Nat) (cst : Int), tk_wi 6 0 0 tc30_hw o = some [(0, a, 0, cst)] → ∀ (ρ1 : Nat → Int), (∀ k, k < 6 → tk_dv ρ1 k (tk_at tc30_d_S0.1 k) (ρ1 k)) → ∀ (ρ' : Nat → Int) (B' : tk_B) (ws' : va_W) (tys' : List (ClassId × FieldType)) (H' : Heap) (locs' : List Loc) (ls' : Array Slot) (lv' : List (Nat × Value)) (st' : List Value), tk_ok D tw_cl A s H (tk_TKT tt_T) tc30_F B ws (tk_Tmi tt_T 140).1 o ρ' B' ws' tys' H' locs' ls' lv' st' → (∀ k, k < 6 → ρ' k = ρ1 k) → tk_ok D tw_cl A s H (tk_TKT tt_T) tc30_F B ws (tk_Tmi tt_T 140).1 tc30_h (tk_rw 6 [(0, a, 0, cst)] ρ') B' ws' tys' H' locs' ls' lv' st' ∧ tk_rw 6 [(0, a, 0, cst)] ρ' 6 = ρ' a + cst := fun o a cst hxs ρ1 hd ρ' B' ws' tys' H' locs' ls' lv' st' hk' hag => by
    obtain ⟨g1, -, -⟩ := tk_wi.ok (E0 := tc30_d_S0.1) hxs (by decide) rfl hk' (fun k hk => by
      rw [hag k hk]
      exact (hd k hk).ext (fun i hi => hag i (by omega)))
    exact ⟨g1, rfl⟩
  have head : ∀ (n : Nat) (ρ1 : Nat → Int) (B1 : tk_B) (ws1 : va_W) (tys1 : List (ClassId × FieldType)) (H1 : Heap) (locs1 : List Loc) (ls1 : Array Slot) (lv1 : List (Nat × Value)) (st1 : List Value), tk_ok D tw_cl A s H (tk_TKT tt_T) tc30_F B ws (tk_Tmi tt_T 140).1 tc30_h ρ1 B1 ws1 tys1 H1 locs1 ls1 lv1 st1 → tk_ag 6 ρ 7 ρ1 → (121 - ρ1 6).toNat ≤ n → (∀ b, b < 4 → b ≠ 0 → tl_R ws1 (ρ 2) (ρ 4) (ρ 5) b) → (∀ k : Nat, (k : Int) < ρ1 6 → tl_pl ws1 (ρ 4) (120 * 0 + k) = tl_pl ws1 (ρ 4) (120 * 3 + k) ∧ tl_pl ws1 (ρ 5) (120 * 0 + k) = tl_pl ws1 (ρ 5) (120 * 3 + k)) → W p l e (tk_rm tt_T 140) s m args below meth c H1 locs1 0 0 (MQ below (tl_Qc tt_T D tw_cl A tc30_k ρ B ws (tc_Z ρ B ws)) args s 0 0 A) (F0 m 14 ls1 st1) := by
    intro n
    induction n with
    | zero =>
      intro ρ1 B1 ws1 tys1 H1 locs1 ls1 lv1 st1 hk1 hg1 hn
      have : ρ1 6 ≤ 120 := (hk1.1 6).2.1
      omega
    | succ n ih =>
      intro ρ1 B1 ws1 tys1 H1 locs1 ls1 lv1 st1 hk1 hg1 hn hJ1 hI1
      have hd1 : ∀ k, k < 6 → tk_dv ρ1 k (tk_at tc30_d_S0.1 k) (ρ1 k) := fun k hk => by
        have := hk1.1 k
        have e : tc30_h.1 = tc30_d_S0.1 ++ [(0, 120, 0, 0, 0, 0)] := rfl
        rw [e, tk_at.app (show k < tc30_d_S0.1.length from hk)] at this
        exact this
      refine tl_seg (F' := []) tw_V tw_LV tw_Ts_good (tx_Sc A) hTx hKs hNV hX tc30_b rfl hk1 hg1 (fun o ho ρ2 B2 ws2 tys2 H2 locs2 ls2 lv2 st2 hk2 hg2 hf2 => ?_)
      have hag2 : ∀ k, k < 7 → ρ2 k = ρ1 k := fun k hk => hg2.2 k hk
      have hρ2 : ∀ k, k < 6 → ρ2 k = ρ k := fun k hk => by rw [hag2 k (by omega)]; exact hg1.2 k hk
      have u6 : 0 ≤ ρ1 6 := (hk1.1 6).1
      rcases List.mem_cons.mp ho with rfl | ho
      · have v6 : ρ1 6 ≤ 119 := by rw [← hag2 6 (by decide)]; exact (hk2.1 6).2.1
        refine tl_ist (K2 := []) (M' := tc30_e.2.2.2.1) rfl hx hb (tw_V.1 140 45 _ _ (rfl : tt_cd 140 45 = some (.iastore, 1))) hk2 (fun ws3 H3 locs3 st3 hk3 hw3 ho3 => ?_)
        refine tl_seg (S := tc30_e) (F' := []) tw_V tw_LV tw_Ts_good (tx_Sc A) hTx hKs hNV hX tc30_f rfl hk3 ⟨by decide, hρ2⟩ (fun o ho ρ4 B4 ws4 tys4 H4 locs4 ls4 lv4 st4 hk4 hg4 hf4 => ?_)
        rw [List.mem_singleton] at ho
        subst ho
        have hag4 : ∀ k, k < 7 → ρ4 k = ρ1 k := fun k hk => by rw [hg4.2 k (Nat.lt_of_lt_of_le hk (by decide))]; exact hag2 k hk
        have hρ4 : ∀ k, k < 6 → ρ4 k = ρ k := fun k hk => by rw [hag4 k (by omega)]; exact hg1.2 k hk
        refine tl_ist (K2 := []) (M' := tc30_g.2.2.2.1) rfl hx hb (tw_V.1 140 67 _ _ (rfl : tt_cd 140 67 = some (.iastore, 1))) hk4 (fun ws5 H5 locs5 st5 hk5 hw5 ho5 => ?_)
        refine tl_seg (S := tc30_g) (F' := [(85, 0, 119), (86, 0, 119)]) tw_V tw_LV tw_Ts_good (tx_Sc A) hTx hKs hNV hX tc30_i rfl hk5 ⟨by decide, hρ4⟩ (fun o ho ρ6 B6 ws6 tys6 H6 locs6 ls6 lv6 st6 hk6 hg6 hf6 => ?_)
        rw [List.mem_singleton] at ho
        subst ho
        have hag6 : ∀ k, k < 7 → ρ6 k = ρ1 k := fun k hk => by rw [hg6.2 k (Nat.lt_of_lt_of_le hk (by decide))]; exact hag4 k hk
        have hρ6 : ∀ k, k < 6 → ρ6 k = ρ k := fun k hk => by rw [hag6 k (by omega)]; exact hg1.2 k hk
        dsimp only at ho3 ho5
        rw [hρ2 4 (by decide), hag2 6 (by decide), Int.add_zero] at ho3
        rw [hρ4 5 (by decide), hag4 6 (by decide), Int.add_zero] at ho5
        have c2 : ∀ i, tl_pl ws6 (ρ 2) i = tl_pl ws1 (ρ 2) i := fun i => by
          rw [tl_pl.fr hf6 k2 rfl, ho5 _ _ b2 (Or.inl n25), tl_pl.fr hf4 k2 rfl, ho3 _ _ b2 (Or.inl n24)]
          exact tl_pl.fr hf2 k2 rfl
        have c4 : ∀ i : Nat, (i : Int) ≠ ρ1 6 + 0 → tl_pl ws6 (ρ 4) i = tl_pl ws1 (ρ 4) i := fun i hi => by
          rw [tl_pl.fr hf6 k4 rfl, ho5 _ _ b4 (Or.inl n45), tl_pl.fr hf4 k4 rfl, ho3 _ _ b4 (Or.inr hi)]
          exact tl_pl.fr hf2 k4 rfl
        have c5 : ∀ i : Nat, (i : Int) ≠ ρ1 6 + 0 → tl_pl ws6 (ρ 5) i = tl_pl ws1 (ρ 5) i := fun i hi => by
          rw [tl_pl.fr hf6 k5 rfl, ho5 _ _ b5 (Or.inr hi), tl_pl.fr hf4 k5 rfl, ho3 _ _ b5 (Or.inl (Ne.symm n45))]
          exact tl_pl.fr hf2 k5 rfl
        obtain ⟨g1, g2⟩ := into tc30_i_S0 6 1 rfl ρ1 hd1 ρ6 B6 ws6 tys6 H6 locs6 ls6 lv6 st6 hk6 (fun k hk => hag6 k (by omega))
        have a6 := hag6 6 (by decide)
        refine ih _ B6 ws6 tys6 H6 locs6 ls6 lv6 st6 g1 ⟨by decide, fun k hk => by rw [tk_rw.lt hk]; exact hρ6 k hk⟩ (by rw [g2, a6]; omega) (fun b hb4 hbB => (hJ1 b hb4 hbB).tr (c2 b) (fun i hi => c4 _ (by omega)) (fun i hi => c5 _ (by omega))) (fun k hk => ?_)
        rw [g2, a6] at hk
        by_cases ek : (k : Int) = ρ1 6
        · have hm6 : tk_mem ρ6 B6 _ ws6 tc30_i_S0.2.2.2.1 := hk6.2.2.2.2.2.1
          obtain ⟨x1, p1, e1, -, -⟩ := tl_int (to := 93) (so := 4) (co := 0) (ti := 1) (si := 6) (ci := 0) (sv := 8) (cv := 0) hm6 (by unfold tc30_i_S0; decide)
          obtain ⟨x2, p2, e2, -, -⟩ := tl_int (to := 93) (so := 4) (co := 0) (ti := 1) (si := 6) (ci := 360) (sv := 8) (cv := 0) hm6 (by unfold tc30_i_S0; decide)
          obtain ⟨x3, p3, e3, -, -⟩ := tl_int (to := 94) (so := 5) (co := 0) (ti := 1) (si := 6) (ci := 0) (sv := 9) (cv := 0) hm6 (by unfold tc30_i_S0; decide)
          obtain ⟨x4, p4, e4, -, -⟩ := tl_int (to := 94) (so := 5) (co := 0) (ti := 1) (si := 6) (ci := 360) (sv := 9) (cv := 0) hm6 (by unfold tc30_i_S0; decide)
          rw [hρ6 4 (by decide), a6, Int.add_zero, show (ρ1 6 + 0).toNat = 120 * 0 + k by omega] at p1
          rw [hρ6 4 (by decide), a6, Int.add_zero, show (ρ1 6 + 360).toNat = 120 * 3 + k by omega] at p2
          rw [hρ6 5 (by decide), a6, Int.add_zero, show (ρ1 6 + 0).toNat = 120 * 0 + k by omega] at p3
          rw [hρ6 5 (by decide), a6, Int.add_zero, show (ρ1 6 + 360).toNat = 120 * 3 + k by omega] at p4
          have q1 : x1 = x2 := Int32.toInt_inj.mp (by rw [e1, e2])
          have q2 : x3 = x4 := Int32.toInt_inj.mp (by rw [e3, e4])
          exact ⟨by rw [p1, p2, q1], by rw [p3, p4, q2]⟩
        · obtain ⟨y1, y2⟩ := hI1 k (by omega)
          exact ⟨by rw [c4 _ (by omega), c4 _ (by omega)]; exact y1, by rw [c5 _ (by omega), c5 _ (by omega)]; exact y2⟩
      · rw [List.mem_singleton] at ho
        subst ho
        have hge : ρ2 3 ≤ ρ2 6 := by
          have q := hk2.1 7
          have q1 : (0 : Int) ≤ ρ2 7 := q.1
          have q2 : ρ2 7 = ρ2 6 - ρ2 3 + 0 := q.2.2.2.2 rfl
          omega
        have f2 : ∀ i, tl_pl ws2 (ρ 2) i = tl_pl ws1 (ρ 2) i := fun i => tl_pl.fr hf2 k2 rfl
        have f4 : ∀ i, tl_pl ws2 (ρ 4) i = tl_pl ws1 (ρ 4) i := fun i => tl_pl.fr hf2 k4 rfl
        have f5 : ∀ i, tl_pl ws2 (ρ 5) i = tl_pl ws1 (ρ 5) i := fun i => tl_pl.fr hf2 k5 rfl
        have hm2 : tk_mem ρ2 B2 _ ws2 tc30_b_S1.2.2.2.1 := hk2.2.2.2.2.2.1
        obtain ⟨xb, pb, eb, -, -⟩ := tl_int (to := 92) (so := 2) (co := 0) (ti := 1) (si := 0) (ci := 0) (sv := 3) (cv := 0) hm2 (by unfold tc30_b_S1; decide)
        obtain ⟨xa, pa, ea, -, -⟩ := tl_int (to := 92) (so := 2) (co := 0) (ti := 1) (si := 0) (ci := 3) (sv := 3) (cv := 0) hm2 (by unfold tc30_b_S1; decide)
        rw [hρ2 2 (by decide), hρ2 0 (by decide), z0, Int.add_zero] at pb pa
        have pb : tl_pl ws2 (ρ 2) 0 = some (.int xb) := pb
        have pa : tl_pl ws2 (ρ 2) 3 = some (.int xa) := pa
        have a6 := hag2 6 (by decide)
        refine tl_ret (k := tc30_k) (w := tc30_w) (xs := []) (o := (118, tc30_b_S1)) tw_V (tw_mv (y := 140) (by decide) (by decide)) hX hr hlocks hH ⟨.return_, 1, rfl, rfl⟩ hk2 ⟨by decide, hρ2⟩ hE List.mem_cons_self rfl (fun _ => ?_)
        intro b hb4
        by_cases hbB : b = 0
        · subst hbB
          intro cnt hc i j hij hj hj2 oo dd dd' g1 g2 g3 g4
          rw [pb] at hc
          cases hc
          rw [eb] at hj
          rw [f4] at g1 g2
          rw [f5] at g3 g4
          rw [(hI1 i (by omega)).1] at g1
          rw [(hI1 j (by omega)).1] at g2
          rw [(hI1 i (by omega)).2] at g3
          rw [(hI1 j (by omega)).2] at g4
          rw [f2] at pa
          exact hJ1 3 (by decide) (by decide) xa pa i j hij (by rw [ea]; exact hj) hj2 oo dd dd' g1 g2 g3 g4
        · exact (hJ1 b hb4 hbB).tr (f2 b) (fun i _ => f4 _) (fun i _ => f5 _)
  refine tl_seg (S := tc30_S0) (F' := []) tw_V tw_LV tw_Ts_good (tx_Sc A) hTx hKs hNV hX tc30_a rfl hk ⟨Nat.le_refl _, fun _ _ => rfl⟩ (fun o ho ρ1 B1 ws1 tys1 H1 locs1 ls1 lv1 st1 hk1 hg1 hf1 => ?_)
  rw [List.mem_singleton] at ho
  subst ho
  have hρ1 : ∀ k, k < 6 → ρ1 k = ρ k := fun k hk => hg1.2 k hk
  refine tl_ist (K2 := []) (M' := tc30_c.2.2.2.1) rfl hx hb (tw_V.1 140 11 _ _ (rfl : tt_cd 140 11 = some (.iastore, 1))) hk1 (fun ws2 H2 locs2 st2 hk2 hw2 ho2 => ?_)
  refine tl_seg (S := tc30_c) (F' := []) tw_V tw_LV tw_Ts_good (tx_Sc A) hTx hKs hNV hX tc30_d rfl hk2 ⟨by decide, hρ1⟩ (fun o ho ρ3 B3 ws3 tys3 H3 locs3 ls3 lv3 st3 hk3 hg3 hf3 => ?_)
  rw [List.mem_singleton] at ho
  subst ho
  have hρ3 : ∀ k, k < 6 → ρ3 k = ρ k := fun k hk => by rw [hg3.2 k (Nat.lt_of_lt_of_le hk (by decide))]; exact hρ1 k hk
  dsimp only at ho2
  rw [hρ1 2 (by decide), hρ1 0 (by decide), z0, Int.add_zero] at ho2
  obtain ⟨g1, g2⟩ := into tc30_d_S0 0 0 rfl ρ3 (fun k _ => hk3.1 k) ρ3 B3 ws3 tys3 H3 locs3 ls3 lv3 st3 hk3 (fun _ _ => rfl)
  rw [hk3.2.1.2] at g2
  refine head 121 _ B3 ws3 tys3 H3 locs3 ls3 lv3 st3 g1 ⟨by decide, fun k hk => by rw [tk_rw.lt hk]; exact hρ3 k hk⟩ (by rw [g2]; decide) (fun b hb4 hbB => (hP b hb4).tr ?_ (fun i _ => ?_) (fun i _ => ?_)) (fun k hk => by rw [g2] at hk; omega)
  · rw [tl_pl.fr hf3 k2 rfl, ho2 _ _ b2 (Or.inr (by omega))]
    exact tl_pl.fr hf1 k2 rfl
  · rw [tl_pl.fr hf3 k4 rfl, ho2 _ _ b4 (Or.inl (Ne.symm n24))]
    exact tl_pl.fr hf1 k4 rfl
  · rw [tl_pl.fr hf3 k5 rfl, ho2 _ _ b5 (Or.inl (Ne.symm n25))]
    exact tl_pl.fr hf1 k5 rfl
