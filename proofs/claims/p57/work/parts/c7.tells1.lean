section TT
variable {l : Launch} {D : va_G} {A : Nat → Prop}
/-- an int that a fact tells -/
theorem tl_int {ρ : Nat → Int} {B : tk_B} {n : Nat} {ws : va_W} {M : tk_M} {to ti so si sv : Nat} {co ci cv : Int} (hM : tk_mem ρ B n ws M) (hf : ((to, so, co), (ti, si, ci), (1, sv, cv)) ∈ M) : ∃ xv : Int32, tl_pl ws (ρ so + co) (ρ si + ci).toNat = some (.int xv) ∧ xv.toInt = ρ sv + cv ∧ 0 ≤ ρ si + ci ∧ tl_kd B (ρ so + co) (to - 10) := by
  obtain ⟨-, h⟩ := hM _ hf
  obtain ⟨w, h1, h2, h3⟩ := tl_pl.fa h
  obtain ⟨xv, rfl, e⟩ := h2
  exact ⟨xv, h1, e, h3, tl_kd.fa h⟩
theorem tl_kref {ρ : Nat → Int} {B : tk_B} {n : Nat} {ws : va_W} {M : tk_M} {to ti so si sv κ : Nat} {co ci cv : Int} (hM : tk_mem ρ B n ws M) (hf : ((to, so, co), (ti, si, ci), (10 + κ, sv, cv)) ∈ M) (h1 : 1 ≤ ρ sv + cv) : tl_kd B (ρ sv + cv) κ := by
  obtain ⟨-, h⟩ := hM _ hf
  obtain ⟨w, -, h2, -⟩ := tl_pl.fa h
  rcases (tk_vn.ref (by dsimp only; omega)).mp h2 with ⟨-, q⟩ | ⟨j, a, -, q1, q2⟩
  · dsimp only at q
    omega
  · dsimp only at q1 q2
    exact ⟨j, a, q2, by rw [q1]; congr 2; omega⟩
theorem tl_kd.one {B : tk_B} {z : Int} {κ κ' : Nat} (h : tl_kd B z κ) (h' : tl_kd B z κ') : κ = κ' := by
  obtain ⟨j, a, h1, h2⟩ := h
  obtain ⟨j', a', h3, h4⟩ := h'
  have : j = j' := by omega
  subst this
  rw [h2] at h4
  cases h4
  rfl
theorem tl_kd.pos {B : tk_B} {z : Int} {κ : Nat} (h : tl_kd B z κ) : 1 ≤ z := by
  obtain ⟨j, a, h1, h2⟩ := h
  omega
theorem tl_J2.tr {ws ws' : va_W} {zc zo zd : Int} (h : tl_J2 ws zc zo zd) (h1 : ∀ i, tl_pl ws' zc i = tl_pl ws zc i) (h2 : ∀ i, tl_pl ws' zo i = tl_pl ws zo i) (h3 : ∀ i, tl_pl ws' zd i = tl_pl ws zd i) : tl_J2 ws' zc zo zd := by
  intro b hb cnt hc i j hij hj hj2 o d d' g1 g2 g3 g4
  rw [h1] at hc
  rw [h2] at g1 g2
  rw [h3] at g3 g4
  exact h b hb cnt hc i j hij hj hj2 o d d' g1 g2 g3 g4
def th_P (ρ : Nat → Int) (_ : tk_B) (ws : va_W) : Prop := tl_J2 ws (ρ 6) (ρ 8) (ρ 9)
def th_Z (ρ : Nat → Int) (_ : tk_B) (_ : va_W) (_ : tk_A) (_ : tk_B) (ws' : va_W) (_ _ : Heap) : Prop := tl_J2 ws' (ρ 6) (ρ 8) (ρ 9)
set_option maxHeartbeats 8000000 in
theorem th_con (hNV : tx_NV l D A) : tl_Con tt_T tw_U tw_Ts tw_NWs tw_TXs (tx_St A) l D tw_cl A th_k th_P th_Z := by
  have hKs := tu_Ks (tu_q437 hNV)
  have hTx : ∀ (s : State) (H : Heap) (ad : Nat → Nat), tk_Dx tw_NWs tw_TXs (tx_St A) ad s H → ∀ k, k < tt_nt → ∃ cell : Cell, H[ad k]? = some cell ∧ cell.vm.isStatics = false ∧ s.vm.findClass (tw_U.1 tt_sc) = some cell.cls := fun s H ad h k hk => tx_Tx h k hk
  refine tl_met tw_V (tw_mv (y := 227) (by decide) (by decide)) (show (227 : Nat) ≠ 0 by decide) (Nat.le_of_ble_eq_true rfl) ?_
  intro ρ B ws tys H p e s m args below meth c ls lv hE hP hX hr hlocks hH hk
  have hx := hX.1
  have hb := hX.2.1
  have hP : tl_J2 ws (ρ 6) (ρ 8) (ρ 9) := hP
  have hM0 : tk_mem ρ B 10 ws th_S0.2.2.2.1 := hk.2.2.2.2.2.1
  have b6 : 1 ≤ ρ 6 := (hE 6).1
  have b8 : 1 ≤ ρ 8 := (hE 8).1
  have b9 : 1 ≤ ρ 9 := (hE 9).1
  have k6 : tl_kd B (ρ 6) 82 := by
    have := tl_kref (κ := 82) (sv := 6) (cv := 0) hM0 (by unfold th_S0; exact List.mem_cons_self) (by omega)
    rwa [Int.add_zero] at this
  have k8 : tl_kd B (ρ 8) 83 := by
    have := tl_kref (κ := 83) (sv := 8) (cv := 0) hM0 (by unfold th_S0; exact List.mem_cons_of_mem _ (List.mem_cons_of_mem _ List.mem_cons_self)) (by omega)
    rwa [Int.add_zero] at this
  have k9 : tl_kd B (ρ 9) 84 := by
    have := tl_kref (κ := 84) (sv := 9) (cv := 0) hM0 (by unfold th_S0; exact List.mem_cons_of_mem _ (List.mem_cons_of_mem _ (List.mem_cons_of_mem _ List.mem_cons_self))) (by omega)
    rwa [Int.add_zero] at this
  have n68 : ρ 6 ≠ ρ 8 := fun q => by rw [q] at k6; exact absurd (k6.one k8) (by decide)
  have n69 : ρ 6 ≠ ρ 9 := fun q => by rw [q] at k6; exact absurd (k6.one k9) (by decide)
  have n89 : ρ 8 ≠ ρ 9 := fun q => by rw [q] at k8; exact absurd (k8.one k9) (by decide)
  -- a return
  have fin : ∀ (o : Nat × tk_S) (xs : List tk_Lx), tk_Ret tt_T 227 o → tk_wi 10 0 0 th_w (o.2.1, [], o.2.2.2.1, o.2.2.2.2.1, 0, 0) = some xs → ∀ (ρ' : Nat → Int) (B' : tk_B) (ws' : va_W) (tys' : List (ClassId × FieldType)) (H' : Heap) (locs' : List Loc) (ls' : Array Slot) (lv' : List (Nat × Value)) (st' : List Value), tk_ok D tw_cl A s H (tk_TKT tt_T) th_F B ws (tk_Tmi tt_T 227).1 o.2 ρ' B' ws' tys' H' locs' ls' lv' st' → tk_ag 10 ρ o.2.1.length ρ' → tl_J2 ws' (ρ 6) (ρ 8) (ρ 9) → W p l e (tk_rm tt_T 227) s m args below meth c H' locs' o.2.2.2.2.2.1 o.2.2.2.2.2.2 (MQ below (tl_Qc tt_T D tw_cl A th_k ρ B ws (th_Z ρ B ws)) args s 0 0 A) (F0 m o.1 ls' st') := fun o xs hR hxs ρ' B' ws' tys' H' locs' ls' lv' st' hk' hg' hJ =>
    tl_ret (k := th_k) (w := th_w) tw_V (tw_mv (y := 227) (by decide) (by decide)) hX hr hlocks hH hR hk' hg' hE List.mem_cons_self hxs (fun _ => hJ)
  -- into the head
  have into : ∀ (o : tk_S) (a : Nat) (cst : Int), tk_wi 10 0 0 th_hw o = some [(0, a, 0, cst)] → ∀ (ρ1 : Nat → Int), (∀ k, k < 10 → tk_dv ρ1 k (tk_at th_a_S1.1 k) (ρ1 k)) → ∀ (ρ' : Nat → Int) (B' : tk_B) (ws' : va_W) (tys' : List (ClassId × FieldType)) (H' : Heap) (locs' : List Loc) (ls' : Array Slot) (lv' : List (Nat × Value)) (st' : List Value), tk_ok D tw_cl A s H (tk_TKT tt_T) th_F B ws (tk_Tmi tt_T 227).1 o ρ' B' ws' tys' H' locs' ls' lv' st' → (∀ k, k < 10 → ρ' k = ρ1 k) → tk_ok D tw_cl A s H (tk_TKT tt_T) th_F B ws (tk_Tmi tt_T 227).1 th_h (tk_rw 10 [(0, a, 0, cst)] ρ') B' ws' tys' H' locs' ls' lv' st' ∧ tk_rw 10 [(0, a, 0, cst)] ρ' 10 = ρ' a + cst := fun o a cst hxs ρ1 hd ρ' B' ws' tys' H' locs' ls' lv' st' hk' hag => by
    obtain ⟨g1, -, -⟩ := tk_wi.ok (E0 := th_a_S1.1) hxs (by decide) rfl hk' (fun k hk => by
      rw [hag k hk]
      exact (hd k hk).ext (fun i hi => hag i (by omega)))
    exact ⟨g1, rfl⟩
  have head : ∀ (n : Nat) (ρ1 : Nat → Int) (B1 : tk_B) (ws1 : va_W) (tys1 : List (ClassId × FieldType)) (H1 : Heap) (locs1 : List Loc) (ls1 : Array Slot) (lv1 : List (Nat × Value)) (st1 : List Value), tk_ok D tw_cl A s H (tk_TKT tt_T) th_F B ws (tk_Tmi tt_T 227).1 th_h ρ1 B1 ws1 tys1 H1 locs1 ls1 lv1 st1 → tk_ag 10 ρ 11 ρ1 → (120 - ρ1 10).toNat ≤ n → tl_J2 ws1 (ρ 6) (ρ 8) (ρ 9) → (∀ k : Nat, (k : Int) < ρ1 10 → ∀ oo dd : Int32, tl_pl ws1 (ρ 8) k = some (.int oo) → tl_pl ws1 (ρ 9) k = some (.int dd) → oo.toInt = ρ 2 → dd.toInt < ρ 3) → W p l e (tk_rm tt_T 227) s m args below meth c H1 locs1 0 0 (MQ below (tl_Qc tt_T D tw_cl A th_k ρ B ws (th_Z ρ B ws)) args s 0 0 A) (F0 m 17 ls1 st1) := by
    intro n
    induction n with
    | zero =>
      intro ρ1 B1 ws1 tys1 H1 locs1 ls1 lv1 st1 hk1 hg1 hn
      have : ρ1 10 ≤ 119 := (hk1.1 10).2.1
      omega
    | succ n ih =>
      intro ρ1 B1 ws1 tys1 H1 locs1 ls1 lv1 st1 hk1 hg1 hn hJ1 hI1
      have hd1 : ∀ k, k < 10 → tk_dv ρ1 k (tk_at th_a_S1.1 k) (ρ1 k) := fun k hk => by
        have := hk1.1 k
        have e : th_h.1 = th_a_S1.1 ++ [(0, 119, 0, 0, 0, 0)] := rfl
        rw [e, tk_at.app (show k < th_a_S1.1.length from hk)] at this
        exact this
      -- one more round
      have more : ∀ (o : tk_S), tk_wi 10 0 0 th_hw o = some [(0, 10, 0, 1)] → ∀ (ρ' : Nat → Int) (B' : tk_B) (ws' : va_W) (tys' : List (ClassId × FieldType)) (H' : Heap) (locs' : List Loc) (ls' : Array Slot) (lv' : List (Nat × Value)) (st' : List Value), tk_ok D tw_cl A s H (tk_TKT tt_T) th_F B ws (tk_Tmi tt_T 227).1 o ρ' B' ws' tys' H' locs' ls' lv' st' → (∀ k, k < 11 → ρ' k = ρ1 k) → (∀ i, tl_pl ws' (ρ 6) i = tl_pl ws1 (ρ 6) i) → (∀ i, tl_pl ws' (ρ 8) i = tl_pl ws1 (ρ 8) i) → (∀ i, tl_pl ws' (ρ 9) i = tl_pl ws1 (ρ 9) i) → (∀ oo dd : Int32, tl_pl ws1 (ρ 8) (ρ1 10).toNat = some (.int oo) → tl_pl ws1 (ρ 9) (ρ1 10).toNat = some (.int dd) → oo.toInt = ρ 2 → dd.toInt < ρ 3) → W p l e (tk_rm tt_T 227) s m args below meth c H' locs' 0 0 (MQ below (tl_Qc tt_T D tw_cl A th_k ρ B ws (th_Z ρ B ws)) args s 0 0 A) (F0 m 17 ls' st') := fun o hxs ρ' B' ws' tys' H' locs' ls' lv' st' hk' hag f6 f8 f9 hnew => by
        obtain ⟨g1, g2⟩ := into o 10 1 hxs ρ1 hd1 ρ' B' ws' tys' H' locs' ls' lv' st' hk' (fun k hk => hag k (by omega))
        have a10 := hag 10 (by decide)
        have l10 : 0 ≤ ρ1 10 := (hk1.1 10).1
        refine ih _ B' ws' tys' H' locs' ls' lv' st' g1 ⟨by decide, fun k hk => by rw [tk_rw.lt hk, hag k (by omega)]; exact hg1.2 k hk⟩ (by rw [g2, a10]; omega) (hJ1.tr f6 f8 f9) (fun k hk oo dd q1 q2 q3 => ?_)
        rw [g2, a10] at hk
        rw [f8] at q1
        rw [f9] at q2
        by_cases e1 : (k : Int) = ρ1 10
        · exact hnew oo dd (by rw [← e1, Int.toNat_natCast]; exact q1) (by rw [← e1, Int.toNat_natCast]; exact q2) q3
        · exact hI1 k (by omega) oo dd q1 q2 q3
      refine tl_seg (F' := []) tw_V tw_LV tw_Ts_good (tx_Sc A) hTx hKs hNV hX th_b rfl hk1 hg1 (fun o ho ρ2 B2 ws2 tys2 H2 locs2 ls2 lv2 st2 hk2 hg2 hf2 => ?_)
      have f6 : ∀ i, tl_pl ws2 (ρ 6) i = tl_pl ws1 (ρ 6) i := fun i => tl_pl.fr hf2 k6 rfl
      have f8 : ∀ i, tl_pl ws2 (ρ 8) i = tl_pl ws1 (ρ 8) i := fun i => tl_pl.fr hf2 k8 rfl
      have f9 : ∀ i, tl_pl ws2 (ρ 9) i = tl_pl ws1 (ρ 9) i := fun i => tl_pl.fr hf2 k9 rfl
      have hag2 : ∀ k, k < 11 → ρ2 k = ρ1 k := fun k hk => hg2.2 k hk
      have hρ2 : ∀ k, k < 10 → ρ2 k = ρ k := fun k hk => by rw [hag2 k (by omega)]; exact hg1.2 k hk
      rcases List.mem_cons.mp ho with rfl | ho
      · have hst2 : tk_stk ρ2 B2 _ [(1, 2, 0), (1, 12, 0)] st2 := hk2.2.2.2.2.1
        obtain ⟨v1, st3, rfl, -, ⟨xm, rfl, em⟩, hst3⟩ := tk_stk.uncons hst2
        obtain ⟨v2, st4, rfl, -, ⟨xo, rfl, eo⟩, hst4⟩ := tk_stk.uncons hst3
        cases st4 with
        | cons _ _ => exact absurd hst4 id
        | nil =>
          have hm2 : tk_mem ρ2 B2 _ ws2 th_b_S0.2.2.2.1 := hk2.2.2.2.2.2.1
          obtain ⟨xv, x1, x2, x3, -⟩ := tl_int (to := 93) (so := 8) (co := 0) (ti := 1) (si := 10) (ci := 0) (sv := 12) (cv := 0) hm2 (by unfold th_b_S0; exact List.mem_cons_self)
          have em : xm.toInt = ρ2 2 + 0 := em
          have eo : xo.toInt = ρ2 12 + 0 := eo
          rw [hρ2 8 (by decide), hag2 10 (by decide), Int.add_zero, Int.add_zero, f8] at x1
          have hpop : tk_ok D tw_cl A s H (tk_TKT tt_T) th_F B ws (tk_Tmi tt_T 227).1 th_c ρ2 B2 ws2 tys2 H2 locs2 ls2 lv2 [] := ⟨hk2.1, hk2.2.1, hk2.2.2.1, hk2.2.2.2.1, trivial, hk2.2.2.2.2.2.1, hk2.2.2.2.2.2.2⟩
          have hg2' : tk_ag 10 ρ 13 ρ2 := ⟨by decide, hρ2⟩
          refine lv_icmp_ne hx hb (tgt := 53) (tw_V.1 227 36 _ _ (rfl : tt_cd 227 36 = some (.if_icmp .ne 17, 3))) rfl (fun hne => ?_) (fun heq => ?_)
          · refine tl_seg (F' := []) tw_V tw_LV tw_Ts_good (tx_Sc A) hTx hKs hNV hX th_g rfl hpop hg2' (fun o ho ρ3 B3 ws3 tys3 H3 locs3 ls3 lv3 st3 hk3 hg3 hf3 => ?_)
            rw [List.mem_singleton] at ho
            subst ho
            exact more th_g_S0 rfl ρ3 B3 ws3 tys3 H3 locs3 ls3 lv3 st3 hk3 (fun k hk => by rw [hg3.2 k (Nat.lt_of_lt_of_le hk (by decide))]; exact hag2 k hk) (fun i => (tl_pl.fr hf3 k6 rfl).trans (f6 i)) (fun i => (tl_pl.fr hf3 k8 rfl).trans (f8 i)) (fun i => (tl_pl.fr hf3 k9 rfl).trans (f9 i)) (fun oo dd q1 q2 q3 => by
              rw [x1] at q1
              cases q1
              exact absurd (Int32.toInt_inj.mp (show xo.toInt = xm.toInt by rw [em, hρ2 2 (by decide), ← q3, x2, eo]; omega)) hne)
          · refine tl_seg (F' := []) tw_V tw_LV tw_Ts_good (tx_Sc A) hTx hKs hNV hX th_d rfl hpop hg2' (fun o ho ρ3 B3 ws3 tys3 H3 locs3 ls3 lv3 st3 hk3 hg3 hf3 => ?_)
            rw [List.mem_singleton] at ho
            subst ho
            have hag3 : ∀ k, k < 11 → ρ3 k = ρ1 k := fun k hk => by rw [hg3.2 k (Nat.lt_of_lt_of_le hk (by decide))]; exact hag2 k hk
            have hρ3 : ∀ k, k < 10 → ρ3 k = ρ k := fun k hk => by rw [hag3 k (by omega)]; exact hg1.2 k hk
            have g6 : ∀ i, tl_pl ws3 (ρ 6) i = tl_pl ws1 (ρ 6) i := fun i => (tl_pl.fr hf3 k6 rfl).trans (f6 i)
            have g8 : ∀ i, tl_pl ws3 (ρ 8) i = tl_pl ws1 (ρ 8) i := fun i => (tl_pl.fr hf3 k8 rfl).trans (f8 i)
            have g9 : ∀ i, tl_pl ws3 (ρ 9) i = tl_pl ws1 (ρ 9) i := fun i => (tl_pl.fr hf3 k9 rfl).trans (f9 i)
            have hst5 : tk_stk ρ3 B3 _ [(1, 3, 0), (1, 13, 0)] st3 := hk3.2.2.2.2.1
            obtain ⟨v5, st6, rfl, -, ⟨xd, rfl, ed⟩, hst6⟩ := tk_stk.uncons hst5
            obtain ⟨v6, st7, rfl, -, ⟨xe, rfl, ee⟩, hst7⟩ := tk_stk.uncons hst6
            cases st7 with
            | cons _ _ => exact absurd hst7 id
            | nil =>
              have hm3 : tk_mem ρ3 B3 _ ws3 th_d_S0.2.2.2.1 := hk3.2.2.2.2.2.1
              obtain ⟨xw, z1, z2, z3, -⟩ := tl_int (to := 94) (so := 9) (co := 0) (ti := 1) (si := 10) (ci := 0) (sv := 13) (cv := 0) hm3 (by unfold th_d_S0; exact List.mem_cons_self)
              have ed : xd.toInt = ρ3 3 + 0 := ed
              have ee : xe.toInt = ρ3 13 + 0 := ee
              rw [hρ3 9 (by decide), hag3 10 (by decide), Int.add_zero, Int.add_zero, g9] at z1
              have hpop3 : tk_ok D tw_cl A s H (tk_TKT tt_T) th_F B ws (tk_Tmi tt_T 227).1 th_e ρ3 B3 ws3 tys3 H3 locs3 ls3 lv3 [] := ⟨hk3.1, hk3.2.1, hk3.2.2.1, hk3.2.2.2.1, trivial, hk3.2.2.2.2.2.1, hk3.2.2.2.2.2.2⟩
              have hg3' : tk_ag 10 ρ 14 ρ3 := ⟨by decide, hρ3⟩
              refine lv_icmp_lt hx hb (tgt := 53) (tw_V.1 227 47 _ _ (rfl : tt_cd 227 47 = some (.if_icmp .lt 6, 3))) rfl (fun hlt => ?_) (fun hge => ?_)
              · refine tl_seg (F' := []) tw_V tw_LV tw_Ts_good (tx_Sc A) hTx hKs hNV hX th_i rfl hpop3 hg3' (fun o ho ρ4 B4 ws4 tys4 H4 locs4 ls4 lv4 st4 hk4 hg4 hf4 => ?_)
                rw [List.mem_singleton] at ho
                subst ho
                exact more th_i_S0 rfl ρ4 B4 ws4 tys4 H4 locs4 ls4 lv4 st4 hk4 (fun k hk => by rw [hg4.2 k (Nat.lt_of_lt_of_le hk (by decide))]; exact hag3 k hk) (fun i => (tl_pl.fr hf4 k6 rfl).trans (g6 i)) (fun i => (tl_pl.fr hf4 k8 rfl).trans (g8 i)) (fun i => (tl_pl.fr hf4 k9 rfl).trans (g9 i)) (fun oo dd q1 q2 q3 => by
                  rw [z1] at q2
                  cases q2
                  have := Int32.lt_iff_toInt_lt.mp hlt
                  rw [ed, hρ3 3 (by decide)] at this
                  omega)
              · refine tl_seg (F' := []) tw_V tw_LV tw_Ts_good (tx_Sc A) hTx hKs hNV hX th_f rfl hpop3 hg3' (fun o ho ρ4 B4 ws4 tys4 H4 locs4 ls4 lv4 st4 hk4 hg4 hf4 => ?_)
                rw [List.mem_singleton] at ho
                subst ho
                exact fin (52, th_f_S0) [(0, 0, 0, -5)] ⟨.ireturn, 1, rfl, rfl⟩ rfl ρ4 B4 ws4 tys4 H4 locs4 ls4 lv4 st4 hk4 ⟨by decide, fun k hk => by rw [hg4.2 k (Nat.lt_of_lt_of_le hk (by decide))]; exact hρ3 k hk⟩ (hJ1.tr (fun i => (tl_pl.fr hf4 k6 rfl).trans (g6 i)) (fun i => (tl_pl.fr hf4 k8 rfl).trans (g8 i)) (fun i => (tl_pl.fr hf4 k9 rfl).trans (g9 i)))
      · rw [List.mem_singleton] at ho
        subst ho
        have hge : ρ2 7 ≤ ρ2 10 := by
          have q := hk2.1 11
          have q1 : (0 : Int) ≤ ρ2 11 := q.1
          have q2 : ρ2 11 = ρ2 10 - ρ2 7 + 0 := q.2.2.2.2 rfl
          omega
        have c7 : ρ2 7 = ρ 7 := hρ2 7 (by decide)
        have u7 : 0 ≤ ρ2 7 ∧ ρ2 7 ≤ 119 := ⟨(hk2.1 7).1, (hk2.1 7).2.1⟩
        have hI2 : ∀ k : Nat, (k : Int) < ρ 7 → ∀ oo dd : Int32, tl_pl ws2 (ρ 8) k = some (.int oo) → tl_pl ws2 (ρ 9) k = some (.int dd) → oo.toInt = ρ 2 → dd.toInt < ρ 3 := fun k hk oo dd q1 q2 q3 => hI1 k (by rw [← hag2 10 (by decide)]; omega) oo dd (by rw [← f8]; exact q1) (by rw [← f9]; exact q2) q3
        have hJ2 : tl_J2 ws2 (ρ 6) (ρ 8) (ρ 9) := hJ1.tr f6 f8 f9
        obtain ⟨xc, y1, y2, -, -⟩ := tl_int (to := 92) (so := 6) (co := 0) (ti := 1) (si := 0) (ci := 0) (sv := 7) (cv := 0) (M := th_b_S1.2.2.2.1) hk2.2.2.2.2.2.1 (by unfold th_b_S1; exact List.mem_cons_of_mem _ List.mem_cons_self)
        rw [hρ2 6 (by decide), hk2.2.1.2, Int.add_zero] at y1
        have y1 : tl_pl ws2 (ρ 6) 0 = some (.int xc) := y1
        have y2 : xc.toInt = ρ 7 := by rw [y2, c7]; omega
        refine tl_seg (F' := []) tw_V tw_LV tw_Ts_good (tx_Sc A) hTx hKs hNV hX th_j rfl hk2 ⟨by decide, hρ2⟩ (fun o ho ρ3 B3 ws3 tys3 H3 locs3 ls3 lv3 st3 hk3 hg3 hf3 => ?_)
        rw [List.mem_singleton] at ho
        subst ho
        have hρ3 : ∀ k, k < 10 → ρ3 k = ρ k := fun k hk => by rw [hg3.2 k (Nat.lt_of_lt_of_le hk (by decide))]; exact hρ2 k hk
        refine tl_ist (K2 := []) (M' := th_l.2.2.2.1) rfl hx hb (tw_V.1 227 74 _ _ (rfl : tt_cd 227 74 = some (.iastore, 1))) hk3 (fun ws4 H4 locs4 st4 hk4 hw4 ho4 => ?_)
        refine tl_seg (S := th_l) (F' := []) tw_V tw_LV tw_Ts_good (tx_Sc A) hTx hKs hNV hX th_n rfl hk4 ⟨by decide, hρ3⟩ (fun o ho ρ5 B5 ws5 tys5 H5 locs5 ls5 lv5 st5 hk5 hg5 hf5 => ?_)
        rw [List.mem_singleton] at ho
        subst ho
        have hρ5 : ∀ k, k < 10 → ρ5 k = ρ k := fun k hk => by rw [hg5.2 k (Nat.lt_of_lt_of_le hk (by decide))]; exact hρ3 k hk
        refine tl_ist (K2 := []) (M' := th_o.2.2.2.1) rfl hx hb (tw_V.1 227 82 _ _ (rfl : tt_cd 227 82 = some (.iastore, 1))) hk5 (fun ws6 H6 locs6 st6 hk6 hw6 ho6 => ?_)
        refine tl_seg (S := th_o) (F' := [(82, 0, 0), (85, 0, 119), (86, 0, 119)]) tw_V tw_LV tw_Ts_good (tx_Sc A) hTx hKs hNV hX th_p rfl hk6 ⟨by decide, hρ5⟩ (fun o ho ρ7 B7 ws7 tys7 H7 locs7 ls7 lv7 st7 hk7 hg7 hf7 => ?_)
        rw [List.mem_singleton] at ho
        subst ho
        have hρ7 : ∀ k, k < 10 → ρ7 k = ρ k := fun k hk => by rw [hg7.2 k (Nat.lt_of_lt_of_le hk (by decide))]; exact hρ5 k hk
        refine fin (112, th_p_S0) [(0, 7, 0, 0)] ⟨.ireturn, 1, rfl, rfl⟩ rfl ρ7 B7 ws7 tys7 H7 locs7 ls7 lv7 st7 hk7 ⟨by decide, hρ7⟩ ?_
        -- what stands where, then
        obtain ⟨xa, a1, a2, a3⟩ := hw4
        obtain ⟨xb, b1, b2, b3⟩ := hw6
        dsimp only at a1 a2 a3 b1 b2 b3 ho4 ho6
        rw [hρ3 8 (by decide), hρ3 7 (by decide), Int.add_zero, Int.add_zero] at a3
        rw [hρ5 9 (by decide), hρ5 7 (by decide), Int.add_zero, Int.add_zero] at b3
        rw [hρ3 2 (by decide), Int.add_zero] at a1
        rw [hρ5 3 (by decide), Int.add_zero] at b1
        rw [hρ3 8 (by decide), hρ3 7 (by decide), Int.add_zero, Int.add_zero] at ho4
        rw [hρ5 9 (by decide), hρ5 7 (by decide), Int.add_zero, Int.add_zero] at ho6
        obtain ⟨xn, d1, d2, -, -⟩ := tl_int (to := 92) (so := 6) (co := 0) (ti := 1) (si := 0) (ci := 0) (sv := 7) (cv := 1) (M := th_p_S0.2.2.2.1) hk7.2.2.2.2.2.1 (by unfold th_p_S0; exact List.mem_cons_self)
        rw [hρ7 6 (by decide), hk7.2.1.2, Int.add_zero] at d1
        rw [hρ7 7 (by decide)] at d2
        have d1 : tl_pl ws7 (ρ 6) 0 = some (.int xn) := d1
        have w8 : ∀ i, tl_pl ws7 (ρ 8) i = tl_pl ws4 (ρ 8) i := fun i => ((tl_pl.fr hf7 k8 rfl).trans (ho6 _ _ b8 (Or.inl n89))).trans (tl_pl.fr hf5 k8 rfl)
        have w9 : ∀ i, tl_pl ws7 (ρ 9) i = tl_pl ws6 (ρ 9) i := fun i => tl_pl.fr hf7 k9 rfl
        have v8 : ∀ i : Nat, (i : Int) ≠ ρ 7 → tl_pl ws7 (ρ 8) i = tl_pl ws2 (ρ 8) i := fun i hi => by
          rw [w8, ho4 _ _ b8 (Or.inr hi)]
          exact tl_pl.fr hf3 k8 rfl
        have v9 : ∀ i : Nat, (i : Int) ≠ ρ 7 → tl_pl ws7 (ρ 9) i = tl_pl ws2 (ρ 9) i := fun i hi => by
          rw [w9, ho6 _ _ b9 (Or.inr hi), tl_pl.fr hf5 k9 rfl, ho4 _ _ b9 (Or.inl (fun q => n89 q.symm))]
          exact tl_pl.fr hf3 k9 rfl
        have v6 : ∀ i : Nat, i ≠ 0 → tl_pl ws7 (ρ 6) i = tl_pl ws2 (ρ 6) i := fun i hi => by
          rw [tl_pl.fr hf7 k6 (by cases i with | zero => exact absurd rfl hi | succ n => rfl), ho6 _ _ b6 (Or.inl n69), tl_pl.fr hf5 k6 rfl, ho4 _ _ b6 (Or.inl n68)]
          exact tl_pl.fr hf3 k6 rfl
        intro b hb4 cnt hc i j hij hj hj2 oo dd dd' g1 g2 g3 g4
        by_cases hb0 : b = 0
        · subst hb0
          rw [d1] at hc
          cases hc
          rw [d2] at hj
          rw [Nat.mul_zero, Nat.zero_add] at g1 g2 g3 g4
          have hni : (i : Int) ≠ ρ 7 := by omega
          rw [v8 i hni] at g1
          rw [v9 i hni] at g3
          by_cases hjc : (j : Int) = ρ 7
          · have ej : (ρ 7).toNat = j := by omega
            rw [w8, ← ej, a3] at g2
            rw [w9, ← ej, b3] at g4
            cases g2
            cases g4
            rw [b1]
            exact hI2 i (by omega) _ _ g1 g3 a1
          · rw [v8 j hjc] at g2
            rw [v9 j hjc] at g4
            refine hJ2 0 (by omega) xc y1 i j hij (by rw [y2]; omega) hj2 oo dd dd' ?_ ?_ ?_ ?_ <;> rw [Nat.mul_zero, Nat.zero_add] <;> assumption
        · rw [v6 b hb0] at hc
          have big : ∀ k : Nat, ((120 * b + k : Nat) : Int) ≠ ρ 7 := fun k => by omega
          rw [v8 _ (big i)] at g1
          rw [v8 _ (big j)] at g2
          rw [v9 _ (big i)] at g3
          rw [v9 _ (big j)] at g4
          exact hJ2 b hb4 cnt hc i j hij hj hj2 oo dd dd' g1 g2 g3 g4
  refine tl_seg (S := th_S0) (F' := []) tw_V tw_LV tw_Ts_good (tx_Sc A) hTx hKs hNV hX th_a rfl hk ⟨Nat.le_refl _, fun _ _ => rfl⟩ (fun o ho ρ1 B1 ws1 tys1 H1 locs1 ls1 lv1 st1 hk1 hg1 hf1 => ?_)
  have hρ1 : ∀ k, k < 10 → ρ1 k = ρ k := fun k hk => hg1.2 k hk
  have f6 : ∀ i, tl_pl ws1 (ρ 6) i = tl_pl ws (ρ 6) i := fun i => tl_pl.fr hf1 k6 rfl
  have f8 : ∀ i, tl_pl ws1 (ρ 8) i = tl_pl ws (ρ 8) i := fun i => tl_pl.fr hf1 k8 rfl
  have f9 : ∀ i, tl_pl ws1 (ρ 9) i = tl_pl ws (ρ 9) i := fun i => tl_pl.fr hf1 k9 rfl
  rcases List.mem_cons.mp ho with rfl | ho
  · exact fin (13, th_a_S0) [(0, 0, 0, -3)] ⟨.ireturn, 1, rfl, rfl⟩ rfl ρ1 B1 ws1 tys1 H1 locs1 ls1 lv1 st1 hk1 ⟨by decide, hρ1⟩ (hP.tr f6 f8 f9)
  · rw [List.mem_singleton] at ho
    subst ho
    obtain ⟨g1, g2⟩ := into th_a_S1 0 0 rfl ρ1 (fun k _ => hk1.1 k) ρ1 B1 ws1 tys1 H1 locs1 ls1 lv1 st1 hk1 (fun _ _ => rfl)
    rw [hk1.2.1.2] at g2
    refine head 120 _ B1 ws1 tys1 H1 locs1 ls1 lv1 st1 g1 ⟨by decide, fun k hk => by rw [tk_rw.lt hk]; exact hρ1 k hk⟩ (by rw [g2]; decide) (hP.tr f6 f8 f9) (fun k hk => by rw [g2] at hk; omega)
end TT
