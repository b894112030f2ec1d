/-! ===== step of the reference ===== -/
section HD
variable {p : Program} {l : Launch} {e : Env} {R : Room} {s : State} {m : MethodId} {args : Array Value} {below : List Frame} {meth : Method} {c : Code} {Q : State → Prop}
variable {D : va_G} {A : Nat → Prop} {H0 : Heap} {F : List (Nat × Nat × Nat)} {B0 : tk_B} {ws0 : va_W} {y : Nat} {pc : Nat} {ρ : Nat → Int} {ws : va_W}
variable {E : tk_E} {L K : List tk_V} {M : tk_M} {cs ss : Nat} {a b : tk_P}
/-- are two ints alike -/
theorem tn_at.ieq {off : Int} {tgt : Nat} (hX : tn_Cx y p R s m args meth c A H0 B0) (hc : tt_cd y pc = some (.if_icmp .eq off, 3)) (ht : (pc : Int) + off = (tgt : Int)) (kt : ρ a.1 + a.2 = ρ b.1 + b.2 → tn_at p l e R s m args below meth c Q D A H0 F B0 ws0 y tgt (E, L, K, M, cs, ss) ρ ws) (kf : ρ a.1 + a.2 ≠ ρ b.1 + b.2 → tn_at p l e R s m args below meth c Q D A H0 F B0 ws0 y (pc + 3) (E, L, K, M, cs, ss) ρ ws) : tn_at p l e R s m args below meth c Q D A H0 F B0 ws0 y pc (E, L, (1, b) :: (1, a) :: K, M, cs, ss) ρ ws := by
  intro B tys H locs ls lv st hk
  have hst : tk_stk ρ B E.length ((1, b) :: (1, a) :: K) st := hk.2.2.2.2.1
  obtain ⟨v, st1, rfl, hb, ⟨z, rfl, ez⟩, hst1⟩ := tk_stk.uncons hst
  obtain ⟨v, st2, rfl, ha, ⟨x, rfl, ex⟩, hst2⟩ := tk_stk.uncons hst1
  dsimp only at ex ez
  refine lv_icmp_eq hX.1 hX.2.1 (tgt := tgt) (tw_V.1 y pc _ _ hc) ht (fun q => ?_) (fun q => ?_)
  · exact kt (by rw [← ex, ← ez, q]) B tys H locs ls lv st2 ⟨hk.1, hk.2.1, hk.2.2.1, hk.2.2.2.1, hst2, hk.2.2.2.2.2⟩
  · exact kf (fun q2 => q (Int32.toInt_inj.mp (by rw [ex, ez, q2]))) B tys H locs ls lv st2 ⟨hk.1, hk.2.1, hk.2.2.1, hk.2.2.2.1, hst2, hk.2.2.2.2.2⟩
end HD
theorem tn_cnt.clr {r k : Nat} (hr : r < 4096) (hk : k < 12) (h : r.testBit k = true) : tn_cnt (tn_clr r k) + 1 = tn_cnt r := by
  have h1 := tn_z.one (f := fun j => (tn_clr r k).testBit j) (g := fun j => r.testBit j) (i := k) (fun j hj => by rw [tn_clr.bit hr hk]; simp [hj]) (by rw [tn_clr.bit hr hk]; simp) h (n := 12) (m := 0) (Nat.zero_le _) (by omega)
  have h2 := tn_z.le (f := fun j => (tn_clr r k).testBit j) (n := 12) (m := 0)
  unfold tn_cnt
  omega
theorem tn_cnt.zero : tn_cnt 0 = 0 := by decide
section HE
variable {l : Launch} {D : va_G} {A : Nat → Prop}
set_option maxHeartbeats 32000000 in
theorem tnp_con : ty_NCon l D A tnp_k (fun _ _ _ => True) (fun _ _ _ _ _ _ _ _ _ => True) := by
  refine tn_walk (k := tnp_k) (show (311 : Nat) ≠ 0 by decide) (tw_mv (y := 311) (by decide) (by decide)) (Nat.le_of_ble_eq_true rfl) ?_
  intro ρ B ws H p e s m args below meth c hE h0 _ hX hr hlocks hH hM
  have k6 : tl_kd B (ρ 6) 57 := (tl_j1 (a := 6) (i := 24) (κ := 57) (zm := (1, 0)) hE hM (by decide)).1
  have k7 : tl_kd B (ρ 7) 58 := (tl_j1 (a := 7) (i := 25) (κ := 58) (zm := (1, 0)) hE hM (by decide)).1
  have k8 : tl_kd B (ρ 8) 93 := (tl_j1 (a := 8) (i := 69) (κ := 93) (zm := (1, 0)) hE hM (by decide)).1
  have r5 : 0 ≤ ρ 5 ∧ ρ 5 ≤ 12 := ⟨(hE 5).1, (hE 5).2.1⟩
  have fin : ∀ (o : Nat × tk_S) (xs : List tk_Lx), tk_Ret tt_T 311 o → tk_wi 9 0 0 tnp_w0 (o.2.1, [], o.2.2.2.1, o.2.2.2.2.1, 0, 0) = some xs → ∀ (ρ' : Nat → Int) (ws' : va_W), tk_ag 9 ρ o.2.1.length ρ' → tn_at p l e (tk_rm tt_T 311) s m args below meth c (MQ below (tn_Qc tt_T D tw_cl A tnp_k ρ B ws (fun _ _ _ _ _ _ => True)) args s (tk_Tmi tt_T 311).2.2.1 (tk_Tmi tt_T 311).2.2.2.1 A) D A H tnp_F B ws 311 o.1 o.2 ρ' ws' := fun o xs hR hxs ρ' ws' hg =>
    tn_at.ret (k := tnp_k) (w := tnp_w0) (Z := fun _ _ _ _ _ _ => True) (show (311 : Nat) ≠ 0 by decide) (tw_mv (y := 311) (by decide) (by decide)) hX hr hlocks hH hR hE hg List.mem_cons_self hxs (fun _ _ => trivial)
  refine tn_at.seg (S := tnp_S) (F' := [(43, 0, 0)]) hX ty_Ks tnp_ra rfl (fun o ho ρ1 ws1 hE1 z1 g1 f1 => ?_)
  rw [List.mem_singleton] at ho
  subst ho
  have a1 : ∀ k, k < 9 → ρ1 k = ρ k := fun k hk => g1.2 k hk
  refine tn_at.call (k := tns_k) (P := fun _ _ _ => True) (Z := tns_Z) (xs := tnp_xb) (as := tnp_ab) (K' := tnp_qb) (rs := [tnp_b0]) hX tns_con rfl rfl rfl rfl rfl (fun _ _ _ => trivial) (fun w r hwr ρ2 ws2 hE2 g2 f2 hz2 => ?_)
  rw [show List.zip tns_k.2.2.2.2.1 [tnp_b0] = [(tns_w0, tnp_b0)] from rfl, List.mem_singleton] at hwr
  cases hwr
  have a2 : ∀ k, k < 9 → ρ2 k = ρ1 k := fun k hk => g2.2 k hk
  have v2 : ρ2 9 = 0 ∨ (1 ≤ ρ 5 ∧ 0 ≤ ρ 2 ∧ ρ 2 < (2 : Int) ^ (ρ 5).toNat) := by
    obtain ⟨ρe, _, _, _, _, q1, q2⟩ := hz2
    have q1 : ρ2 9 = ρe 5 := q1 0
    have q2 : ρe 5 = 0 ∨ (1 ≤ ρ1 5 + 0 ∧ 0 ≤ ρ1 2 + 0 ∧ ρ1 2 + 0 < (2 : Int) ^ (ρ1 5 + 0).toNat) := q2
    rw [Int.add_zero, Int.add_zero, a1 5 (by decide), a1 2 (by decide)] at q2
    rw [q1]
    exact q2
  refine tn_at.seg (S := tnp_b0) hX ty_Ks tnp_rc rfl (fun o ho ρ3 ws3 hE3 z3 g3 f3 => ?_)
  have a3 : ∀ k, k < 10 → ρ3 k = ρ2 k := fun k hk => g3.2 k hk
  have al3 : ∀ k, k < 9 → ρ3 k = ρ k := fun k hk => by rw [a3 k (by omega), a2 k hk, a1 k hk]
  rcases List.mem_cons.mp ho with rfl | ho
  · exact fin (15, tnp_c0) _ ⟨_, _, rfl, rfl⟩ rfl ρ3 ws3 ⟨by decide, al3⟩
  rw [List.mem_singleton] at ho
  subst ho
  have b9 : 1 ≤ ρ3 9 := (hE3 9).1
  have e9 := a3 9 (by decide)
  obtain ⟨n1, n2, n3⟩ : 1 ≤ ρ 5 ∧ 0 ≤ ρ 2 ∧ ρ 2 < (2 : Int) ^ (ρ 5).toNat := by
    rcases v2 with q | q
    · omega
    · exact q
  obtain ⟨p1, p2, p3⟩ := tn_pw ⟨(ρ 5).toNat, by omega⟩
  dsimp only at p1 p2 p3
  have e2 := al3 2 (by decide)
  refine tn_at.rf (E' := tnp_d.1) (show tk_env ρ3 (tk_rf tnp_c1.1 2 0 4095) from tk_rf.ok hE3 (by omega) (by omega)) rfl ?_
  refine tn_at.call (S := tnp_d) (k := tnz_k) (P := fun _ _ _ => True) (Z := tnz_Z) (xs := tnp_xe) (as := tnp_ae) (K' := tnp_qe) (rs := [tnp_e0]) hX tnz_con rfl rfl rfl rfl rfl (fun _ _ _ => trivial) (fun w r hwr ρ4 ws4 hE4 g4 f4 hz4 => ?_)
  rw [show List.zip tnz_k.2.2.2.2.1 [tnp_e0] = [(tnz_w0, tnp_e0)] from rfl, List.mem_singleton] at hwr
  cases hwr
  have a4 : ∀ k, k < 10 → ρ4 k = ρ3 k := fun k hk => g4.2 k hk
  have v4 : ρ4 10 = (tn_cnt (ρ 2).toNat : Int) := by
    obtain ⟨ρe, _, _, _, _, q1, q2⟩ := hz4
    have q1 : ρ4 10 = ρe 2 := q1 0
    have q2 : ρe 2 = (tn_cnt (ρ3 2 + 0).toNat : Int) := q2
    rw [q1, q2, Int.add_zero, e2]
  refine tn_at.seg (S := tnp_e0) hX ty_Ks tnp_rf rfl (fun o ho ρ5 ws5 hE5 z5 g5 f5 => ?_)
  have a5 : ∀ k, k < 11 → ρ5 k = ρ4 k := fun k hk => g5.2 k hk
  have al5 : ∀ k, k < 9 → ρ5 k = ρ k := fun k hk => by rw [a5 k (by omega), a4 k (by omega), al3 k hk]
  rcases List.mem_cons.mp ho with rfl | ho
  · exact fin (33, tnp_f0) _ ⟨_, _, rfl, rfl⟩ rfl ρ5 ws5 ⟨by decide, al5⟩
  rcases List.mem_cons.mp ho with rfl | ho
  · exact fin (33, tnp_f1) _ ⟨_, _, rfl, rfl⟩ rfl ρ5 ws5 ⟨by decide, al5⟩
  rw [List.mem_singleton] at ho
  subst ho
  have d11 : ρ5 11 = ρ5 3 - ρ5 10 + 0 := (hE5 11).2.2.2.2 rfl
  have b11 : ρ5 11 ≤ -1 := (hE5 11).2.1
  refine tn_at.call (k := tnb_k) (P := fun _ _ _ => True) (Z := tnb_Z) (xs := tnp_xg) (as := tnp_ag) (K' := tnp_qg) (rs := [tnp_g0]) hX tnb_con rfl rfl rfl rfl rfl (fun _ _ _ => trivial) (fun w r hwr ρ6 ws6 hE6 g6 f6 hz6 => ?_)
  rw [show List.zip tnb_k.2.2.2.2.1 [tnp_g0] = [(tnb_w0, tnp_g0)] from rfl, List.mem_singleton] at hwr
  cases hwr
  have a6 : ∀ k, k < 12 → ρ6 k = ρ5 k := fun k hk => g6.2 k hk
  have hG6 : tnb_G ws6 (ρ 8) ((2 : Int) ^ (ρ 5).toNat) := by
    obtain ⟨_, _, _, _, _, -, q2⟩ := hz6
    have q2 : tnb_G ws6 (ρ5 8 + 0) ((2 : Int) ^ (ρ5 5 + 0).toNat) := q2
    rw [Int.add_zero, Int.add_zero, al5 8 (by decide), al5 5 (by decide)] at q2
    exact q2
  refine tn_at.seg (S := tnp_g0) hX ty_Ks tnp_ri rfl (fun o ho ρi wsi hEi zi gi fi => ?_)
  rw [List.mem_singleton] at ho
  subst ho
  have ai : ∀ k, k < 12 → ρi k = ρ6 k := fun k hk => gi.2 k hk
  have hGi : tnb_G wsi (ρ 8) ((2 : Int) ^ (ρ 5).toNat) := hG6.to fi k8 rfl
  have ali : ∀ k, k < 9 → ρi k = ρ k := fun k hk => by rw [ai k (by omega), a6 k (by omega), al5 k hk]
  have i10 : ρi 10 = (tn_cnt (ρ 2).toNat : Int) := by rw [ai 10 (by decide), a6 10 (by decide), a5 10 (by decide), v4]
  have i3 : ρi 3 < ρi 10 := by
    rw [ai 3 (by decide), a6 3 (by decide), ai 10 (by decide), a6 10 (by decide)]
    omega
  have head : ∀ (n : Nat) (ρ1 : Nat → Int) (ws1 : va_W), (∀ k, k < 12 → ρ1 k = ρi k) → tn_sw B wsi ws1 → (12 - ρ1 14).toNat = n → ρ1 13 < (2 : Int) ^ (ρ 5).toNat → (tn_cnt (ρ1 13).toNat : Int) + ρ1 14 = (tn_cnt (ρ 2).toNat : Int) → tn_at p l e (tk_rm tt_T 311) s m args below meth c (MQ below (tn_Qc tt_T D tw_cl A tnp_k ρ B ws (fun _ _ _ _ _ _ => True)) args s (tk_Tmi tt_T 311).2.2.1 (tk_Tmi tt_T 311).2.2.2.1 A) D A H tnp_F B ws 311 46 tnp_h ρ1 ws1 := by
    intro n
    induction n using Nat.strongRecOn with
    | ind n ih =>
    intro ρ1 ws1 hag hsw hn hlt hcnt
    refine tn_at.seg (S := tnp_h) hX ty_Ks tnp_rj rfl (fun o ho ρ2 ws2 hE2 z2 g2 f2 => ?_)
    have a2 : ∀ k, k < 15 → ρ2 k = ρ1 k := fun k hk => g2.2 k hk
    have s2 := hsw.fr f2
    have al2 : ∀ k, k < 12 → ρ2 k = ρi k := fun k hk => by rw [a2 k (by omega), hag k hk]
    rcases List.mem_cons.mp ho with rfl | ho
    · have d15 : ρ2 15 = ρ2 14 - ρ2 3 + 0 := (hE2 15).2.2.2.2 rfl
      have b15 : ρ2 15 ≤ 0 := (hE2 15).2.1
      have b13 : 0 ≤ ρ2 13 ∧ ρ2 13 ≤ 4095 := ⟨(hE2 13).1, (hE2 13).2.1⟩
      have b14 : 0 ≤ ρ2 14 ∧ ρ2 14 ≤ 11 := ⟨(hE2 14).1, (hE2 14).2.1⟩
      have e13 := a2 13 (by decide)
      have e14 := a2 14 (by decide)
      have e3 := al2 3 (by decide)
      have hne : ρ1 13 ≠ 0 := fun q => by
        rw [q] at hcnt
        rw [show (0 : Int).toNat = 0 from rfl, tn_cnt.zero] at hcnt
        omega
      refine tn_at.call (k := tnf_k) (P := tnf_P) (Z := tnf_Z) (xs := tnp_xk) (as := tnp_ak) (K' := tnp_qk) (rs := [tnp_k0]) hX tnf_con rfl rfl rfl rfl rfl (fun _ _ _ => ?_) (fun w r hwr ρ3 ws3 hE3 g3 f3 hz3 => ?_)
      · show ρ2 13 + 0 < (2 : Int) ^ (ρ2 5 + 0).toNat ∧ ∀ j : Int, 0 ≤ j → tn_b (ρ2 13 + 0) j = true → 0 ≤ tn_gi ws2 (ρ2 8 + 0) (12 * (ρ2 13 + 0) + j).toNat ∧ tn_gi ws2 (ρ2 8 + 0) (12 * (ρ2 13 + 0) + j).toNat ≤ 198 * (ρ2 13 + 0)
        rw [Int.add_zero, Int.add_zero, Int.add_zero, al2 5 (by decide), al2 8 (by decide), ali 5 (by decide), ali 8 (by decide), e13]
        refine ⟨hlt, fun j j1 j2 => ?_⟩
        rw [s2.gi k8]
        exact hGi (ρ1 13) j (by omega) hlt j1 j2
      rw [show List.zip tnf_k.2.2.2.2.1 [tnp_k0] = [(tnf_w0, tnp_k0)] from rfl, List.mem_singleton] at hwr
      cases hwr
      have a3 : ∀ k, k < 16 → ρ3 k = ρ2 k := fun k hk => g3.2 k hk
      have s3 := s2.fr f3
      obtain ⟨j, j1, j2, j3, j4, j5⟩ : ∃ j : Int, 0 ≤ j ∧ j < ρ 5 ∧ tn_b (ρ1 13) j = true ∧ ρ3 16 = tn_mn wsi (ρ 6) (ρ 7) (ρ1 12) j + tn_gi wsi (ρ 8) (12 * ρ1 13 + j).toNat ∧ tn_mn wsi (ρ 6) (ρ 7) (ρ1 12) j ≤ 198 := by
        obtain ⟨ρe, _, _, _, _, q1, -, q3⟩ := hz3
        have q1 : ρ3 16 = ρe 9 := q1 0
        have q3 : ρ2 13 + 0 ≠ 0 → ∃ j : Int, 0 ≤ j ∧ j < ρ2 5 + 0 ∧ tn_b (ρ2 13 + 0) j = true ∧ ρe 9 = tn_mn ws2 (ρ2 6 + 0) (ρ2 7 + 0) (ρ2 12 + 0) j + tn_gi ws2 (ρ2 8 + 0) (12 * (ρ2 13 + 0) + j).toNat ∧ tn_mn ws2 (ρ2 6 + 0) (ρ2 7 + 0) (ρ2 12 + 0) j ≤ 198 := q3
        obtain ⟨j, j1, j2, j3, j4, j5⟩ := q3 (fun q => hne (by rw [← e13]; rw [Int.add_zero] at q; exact q))
        rw [Int.add_zero] at j2 j3
        rw [show ρ2 6 + 0 = ρ 6 by rw [al2 6 (by decide), ali 6 (by decide), Int.add_zero], show ρ2 7 + 0 = ρ 7 by rw [al2 7 (by decide), ali 7 (by decide), Int.add_zero], show ρ2 12 + 0 = ρ1 12 by rw [a2 12 (by decide), Int.add_zero], s2.mn k6 k7] at j4 j5
        rw [show ρ2 8 + 0 = ρ 8 by rw [al2 8 (by decide), ali 8 (by decide), Int.add_zero], show ρ2 13 + 0 = ρ1 13 by rw [e13, Int.add_zero], s2.gi k8] at j4
        rw [al2 5 (by decide), ali 5 (by decide)] at j2
        rw [e13] at j3
        exact ⟨j, j1, j2, j3, by rw [q1, j4], j5⟩
      refine tn_at.seg (S := tnp_k0) hX ty_Ks tnp_rl rfl (fun o ho ρl wsl hEl zl gl fl => ?_)
      rw [List.mem_singleton] at ho
      subst ho
      have al : ∀ k, k < 17 → ρl k = ρ3 k := fun k hk => gl.2 k hk
      have sl := s3.fr fl
      have all : ∀ k, k < 15 → ρl k = ρ1 k := fun k hk => by rw [al k (by omega), a3 k (by omega), a2 k hk]
      have l16 : ρl 16 = tn_mn wsi (ρ 6) (ρ 7) (ρ1 12) j + tn_gi wsi (ρ 8) (12 * ρ1 13 + j).toNat := by rw [al 16 (by decide), j4]
      have inner : ∀ (n2 : Nat) (ρ4 : Nat → Int) (ws4 : va_W), (∀ k, k < 17 → ρ4 k = ρl k) → tn_sw B wsi ws4 → (j - ρ4 17).toNat = n2 → ρ4 17 ≤ j → tn_at p l e (tk_rm tt_T 311) s m args below meth c (MQ below (tn_Qc tt_T D tw_cl A tnp_k ρ B ws (fun _ _ _ _ _ _ => True)) args s (tk_Tmi tt_T 311).2.2.1 (tk_Tmi tt_T 311).2.2.2.1 A) D A H tnp_F B ws 311 64 tnp_m ρ4 ws4 := by
        intro n2
        induction n2 using Nat.strongRecOn with
        | ind n2 ih2 =>
        intro ρ4 ws4 hag4 hsw4 hn4 hle4
        have more : ∀ (o : tk_S) (E' : tk_E), E' = tk_rh o.1 17 10 → tk_wi 17 0 0 tnp_mw (E', o.2) = some [(0, 17, 0, 1)] → o.2.2.2.2.1 = 0 ∧ o.2.2.2.2.2 = 0 → ∀ (ρ' : Nat → Int) (ws' : va_W), tk_env ρ' o.1 → (∀ k, k < 18 → ρ' k = ρ4 k) → tn_sw B wsi ws' → ρ4 17 < j → tn_at p l e (tk_rm tt_T 311) s m args below meth c (MQ below (tn_Qc tt_T D tw_cl A tnp_k ρ B ws (fun _ _ _ _ _ _ => True)) args s (tk_Tmi tt_T 311).2.2.1 (tk_Tmi tt_T 311).2.2.2.1 A) D A H tnp_F B ws 311 64 o ρ' ws' := fun o E' hE' hxs hcs ρ' ws' hEo hr' hs' hk => by
          obtain ⟨oE, oL, oK, oM, ocs, oss⟩ := o
          have q17 := hr' 17 (by decide)
          refine tn_at.rf (E' := E') (by rw [hE']; exact tk_rh.ok hEo (by omega)) (by rw [hE']; exact tk_rh.len _ _ _) ?_
          refine tn_at.wi (n0 := 17) (E0 := tnp_l0.1) (ρ0 := ρl) hxs (by decide) rfl hEl (fun k hk => by rw [hr' k (by omega), hag4 k hk]) hcs ?_
          refine ih2 (j - (ρ4 17 + 1)).toNat (by omega) _ ws' (fun k hk => by rw [tk_rw.lt hk, hr' k (by omega), hag4 k hk]) hs' ?_ ?_
          · show (j - (ρ' 17 + 1)).toNat = _
            rw [q17]
          · show ρ' 17 + 1 ≤ j
            omega
        refine tn_at.seg (S := tnp_m) hX ty_Ks tnp_rn rfl (fun o ho ρ5 ws5 hE5 z5 g5 f5 => ?_)
        rw [List.mem_singleton] at ho
        subst ho
        have a5 : ∀ k, k < 18 → ρ5 k = ρ4 k := fun k hk => g5.2 k hk
        have s5 := hsw4.fr f5
        have b17 : 0 ≤ ρ5 17 ∧ ρ5 17 ≤ 11 := ⟨(hE5 17).1, (hE5 17).2.1⟩
        rw [a5 17 (by decide)] at b17
        have q13 : ρ5 13 = ρ1 13 := by rw [a5 13 (by decide), hag4 13 (by decide), all 13 (by decide)]
        refine tn_at.ishr (a := (13, 0)) (b := (17, 0)) hX rfl rfl (fun ρ6 hE6 g6 v6 => ?_)
        have a6 : ∀ k, k < 18 → ρ6 k = ρ5 k := fun k hk => g6.2 k hk
        have v6 : ρ6 18 + 0 = (Int32.ofInt (ρ5 13 + 0) >>> (Int32.ofInt (ρ5 17 + 0) &&& 31)).toInt := v6
        rw [q13, a5 17 (by decide), Int.add_zero, Int.add_zero, Int.add_zero] at v6
        refine tn_at.seg (S := tnp_o) hX ty_Ks tnp_rp rfl (fun o ho ρ7 ws7 hE7 z7 g7 f7 => ?_)
        rw [List.mem_singleton] at ho
        subst ho
        have a7 : ∀ k, k < 19 → ρ7 k = ρ6 k := fun k hk => g7.2 k hk
        refine tn_at.iand (a := (18, 0)) (b := (0, 1)) hX rfl rfl (fun ρ8 hE8 g8 v8 => ?_)
        have a8 : ∀ k, k < 19 → ρ8 k = ρ7 k := fun k hk => g8.2 k hk
        have v8 : ρ8 19 + 0 = (Int32.ofInt (ρ7 18 + 0) &&& Int32.ofInt (ρ7 0 + 1)).toInt := v8
        rw [a7 18 (by decide), z7, Int.add_zero, Int.add_zero, v6, show (0 : Int) + 1 = 1 from rfl, tn_bit (by omega) (by omega) b17.1 b17.2] at v8
        refine tn_at.seg (S := tnp_q) hX ty_Ks tnp_rr rfl (fun o ho ρ9 ws9 hE9 z9 g9 f9 => ?_)
        have a9 : ∀ k, k < 20 → ρ9 k = ρ8 k := fun k hk => g9.2 k hk
        have s9 := (s5.fr f7).fr f9
        have al9 : ∀ k, k < 18 → ρ9 k = ρ4 k := fun k hk => by rw [a9 k (by omega), a8 k (by omega), a7 k (by omega), a6 k (by omega), a5 k hk]
        rcases List.mem_cons.mp ho with rfl | ho
        · have hb : (ρ1 13).toNat.testBit (ρ4 17).toNat = true := by
            have h19 : 1 ≤ ρ9 19 := (hE9 19).1
            rw [a9 19 (by decide), show ρ8 19 = ρ8 19 + 0 by omega, v8] at h19
            by_cases q : (ρ1 13).toNat.testBit (ρ4 17).toNat = true
            · exact q
            · rw [if_neg q] at h19
              omega
          obtain ⟨c1, c2⟩ := hGi (ρ1 13) (ρ4 17) (by omega) hlt b17.1 hb
          refine tn_at.call (k := tnm_k) (P := fun _ _ _ => True) (Z := tnm_Z) (xs := tnp_xs) (as := tnp_as) (K' := tnp_qs) (rs := [tnp_s0]) hX tnm_con rfl rfl rfl rfl rfl (fun _ _ _ => trivial) (fun w r hwr ρa wsa hEa ga fa hza => ?_)
          rw [show List.zip tnm_k.2.2.2.2.1 [tnp_s0] = [(tnm_w0, tnp_s0)] from rfl, List.mem_singleton] at hwr
          cases hwr
          have aa : ∀ k, k < 20 → ρa k = ρ9 k := fun k hk => ga.2 k hk
          have sa := s9.fr fa
          have va : ρa 20 = tn_mn wsi (ρ 6) (ρ 7) (ρ1 12) (ρ4 17) := by
            obtain ⟨ρe, _, _, _, _, q1, q2⟩ := hza
            have q1 : ρa 20 = ρe 6 := q1 0
            have q2 : ρe 6 = tn_mn ws9 (ρ9 6 + 0) (ρ9 7 + 0) (ρ9 12 + 0) (ρ9 17 + 0) := q2
            rw [q1, q2, Int.add_zero, Int.add_zero, Int.add_zero, Int.add_zero, al9 6 (by decide), al9 7 (by decide), al9 12 (by decide), al9 17 (by decide), hag4 6 (by decide), hag4 7 (by decide), hag4 12 (by decide), all 6 (by decide), all 7 (by decide), all 12 (by decide), hag 6 (by decide), hag 7 (by decide), ali 6 (by decide), ali 7 (by decide)]
            exact s9.mn k6 k7 _ _
          refine tn_at.seg (S := tnp_s0) hX ty_Ks tnp_rt rfl (fun o ho ρb wsb hEb zb gb fb => ?_)
          rw [List.mem_singleton] at ho
          subst ho
          have ab : ∀ k, k < 21 → ρb k = ρa k := fun k hk => gb.2 k hk
          refine tn_at.imul (a := (0, 12)) (b := (13, 0)) hX rfl rfl (fun ρc hEc gc vc => ?_)
          have ac : ∀ k, k < 21 → ρc k = ρb k := fun k hk => gc.2 k hk
          have vc : ρc 21 + 0 = (Int32.ofInt (ρb 0 + 12) * Int32.ofInt (ρb 13 + 0)).toInt := vc
          rw [zb, ab 13 (by decide), aa 13 (by decide), al9 13 (by decide), hag4 13 (by decide), all 13 (by decide), Int.add_zero, Int.add_zero, show (0 : Int) + 12 = 12 from rfl, tn_mul (by omega) (by omega)] at vc
          refine tn_at.seg (S := tnp_u) hX ty_Ks tnp_rv rfl (fun o ho ρd wsd hEd zd gd fd => ?_)
          rw [List.mem_singleton] at ho
          subst ho
          have ad : ∀ k, k < 22 → ρd k = ρc k := fun k hk => gd.2 k hk
          have sd := (sa.fr fb).fr fd
          have d22 : ρd 22 = ρd 21 + ρd 17 + 0 := (hEd 22).2.2.2.1 rfl
          have ald : ∀ k, k < 18 → ρd k = ρ4 k := fun k hk => by rw [ad k (by omega), ac k (by omega), ab k (by omega), aa k (by omega), al9 k hk]
          refine tn_at.iald (t := 103) (a := (8, 0)) (i := (22, 0)) (lo := -2147483648) (hi := 2147483647) hX rfl rfl rfl ⟨rfl, rfl⟩ rfl rfl (fun ρf hEf gf vf => ?_)
          have af : ∀ k, k < 23 → ρf k = ρd k := fun k hk => gf.2 k hk
          have vf : ρf 23 = tn_gi wsd (ρd 8 + 0) (ρd 22 + 0).toNat := vf
          rw [Int.add_zero, Int.add_zero, d22, ald 8 (by decide), ald 17 (by decide), ad 21 (by decide), show ρc 21 = 12 * ρ1 13 by omega, hag4 8 (by decide), all 8 (by decide), hag 8 (by decide), ali 8 (by decide), Int.add_zero, sd.gi k8] at vf
          refine tn_at.rf (E' := tnp_x.1) (show tk_env ρf (tk_rf tnp_w.1 23 0 810810) from tk_rf.ok hEf (by omega) (by omega)) rfl ?_
          refine tn_at.seg (S := tnp_x) hX ty_Ks tnp_ry rfl (fun o ho ρg wsg hEg zg gg fg => ?_)
          rw [List.mem_singleton] at ho
          subst ho
          have ag : ∀ k, k < 24 → ρg k = ρf k := fun k hk => gg.2 k hk
          have sg := sd.fr fg
          have d24 : ρg 24 = ρg 20 + ρg 23 + 0 := (hEg 24).2.2.2.1 rfl
          have alg : ∀ k, k < 18 → ρg k = ρ4 k := fun k hk => by rw [ag k (by omega), af k (by omega), ald k hk]
          have v24 : ρg 24 = tn_mn wsi (ρ 6) (ρ 7) (ρ1 12) (ρ4 17) + tn_gi wsi (ρ 8) (12 * ρ1 13 + ρ4 17).toNat := by
            rw [d24, ag 20 (by decide), af 20 (by decide), ad 20 (by decide), ac 20 (by decide), ab 20 (by decide), va, ag 23 (by decide), vf, Int.add_zero]
          refine tn_at.ieq (a := (24, 0)) (b := (16, 0)) (tgt := 106) hX rfl rfl (fun heq => ?_) (fun hne2 => ?_)
          · -- on to it
            refine tn_at.seg (S := tnp_z) hX ty_Ks tnp_rB rfl (fun o ho ρh wsh hEh zh gh fh => ?_)
            rw [List.mem_singleton] at ho
            subst ho
            have ah : ∀ k, k < 25 → ρh k = ρg k := fun k hk => gh.2 k hk
            have alh : ∀ k, k < 18 → ρh k = ρ4 k := fun k hk => by rw [ah k (by omega), alg k hk]
            refine tn_at.ishl (a := (0, 1)) (b := (17, 0)) hX rfl rfl (fun ρj hEj gj vj => ?_)
            have aj : ∀ k, k < 25 → ρj k = ρh k := fun k hk => gj.2 k hk
            have vj : ρj 25 + 0 = (Int32.ofInt (ρh 0 + 1) <<< (Int32.ofInt (ρh 17 + 0) &&& 31)).toInt := vj
            rw [zh, alh 17 (by decide), show (0 : Int) + 1 = 1 from rfl, Int.add_zero, Int.add_zero, tn_shl (by omega) (by omega)] at vj
            refine tn_at.seg (S := tnp_C) hX ty_Ks tnp_rD rfl (fun o ho ρk wsk hEk zk gk fk => ?_)
            rw [List.mem_singleton] at ho
            subst ho
            have ak : ∀ k, k < 26 → ρk k = ρj k := fun k hk => gk.2 k hk
            refine tn_at.ixor (a := (25, 0)) (b := (0, -1)) hX rfl rfl (fun ρm hEm gm vm => ?_)
            have am : ∀ k, k < 26 → ρm k = ρk k := fun k hk => gm.2 k hk
            have vm : ρm 26 + 0 = (Int32.ofInt (ρk 25 + 0) ^^^ Int32.ofInt (ρk 0 + -1)).toInt := vm
            rw [ak 25 (by decide), zk, Int.add_zero, Int.add_zero, vj, show (0 : Int) + -1 = -1 from rfl] at vm
            refine tn_at.iand (a := (13, 0)) (b := (26, 0)) hX rfl rfl (fun ρn hEn gn vn => ?_)
            have an : ∀ k, k < 27 → ρn k = ρm k := fun k hk => gn.2 k hk
            have vn : ρn 27 + 0 = (Int32.ofInt (ρm 13 + 0) &&& Int32.ofInt (ρm 26 + 0)).toInt := vn
            have alm : ∀ k, k < 18 → ρm k = ρ4 k := fun k hk => by rw [am k (by omega), ak k (by omega), aj k (by omega), alh k hk]
            rw [alm 13 (by decide), hag4 13 (by decide), all 13 (by decide), Int.add_zero, Int.add_zero, Int.add_zero, vm, tn_clr.ok (by omega) (by omega) b17.1 b17.2] at vn
            refine tn_at.seg (S := tnp_G) hX ty_Ks tnp_rI rfl (fun o ho ρq wsq hEq zq gq fq => ?_)
            rw [List.mem_singleton] at ho
            subst ho
            have aq : ∀ k, k < 28 → ρq k = ρn k := fun k hk => gq.2 k hk
            have alq : ∀ k, k < 15 → ρq k = ρ1 k := fun k hk => by rw [aq k (by omega), an k (by omega), alm k (by omega), hag4 k (by omega), all k hk]
            have hcl := tn_clr.lt (r := (ρ1 13).toNat) (k := (ρ4 17).toNat) (by omega) (by omega) hb
            have hcc := tn_cnt.clr (r := (ρ1 13).toNat) (k := (ρ4 17).toNat) (by omega) (by omega) hb
            have q27 : ρq 27 = (tn_clr (ρ1 13).toNat (ρ4 17).toNat : Int) := by rw [aq 27 (by decide)]; omega
            have q14 := alq 14 (by decide)
            refine tn_at.wi (n0 := 12) (w := tnp_hw) (E0 := tnp_i0.1) (ρ0 := ρi) (xs := [(0, 17, 0, 0), (0, 27, 0, 0), (0, 14, 0, 1)]) rfl (by decide) rfl hEi (fun k hk => by rw [alq k (by omega), hag k hk]) ⟨rfl, rfl⟩ ?_
            refine ih (12 - (ρ1 14 + 1)).toNat (by omega) _ wsq (fun k hk => by rw [tk_rw.lt hk, alq k (by omega), hag k hk]) (((sg.fr fh).fr fk).fr fq) ?_ ?_ ?_
            · show (12 - (ρq 14 + 1)).toNat = _
              rw [q14]
            · show ρq 27 + 0 < _
              omega
            · show (tn_cnt (ρq 27 + 0).toNat : Int) + (ρq 14 + 1) = _
              rw [Int.add_zero, q27, Int.toNat_natCast, q14]
              omega
          · -- not it
            refine tn_at.seg (S := tnp_z) hX ty_Ks tnp_rA rfl (fun o ho ρh wsh hEh zh gh fh => ?_)
            rw [List.mem_singleton] at ho
            subst ho
            have ah : ∀ k, k < 25 → ρh k = ρg k := fun k hk => gh.2 k hk
            refine more tnp_A0 _ rfl rfl ⟨rfl, rfl⟩ ρh wsh hEh (fun k hk => by rw [ah k (by omega), alg k hk]) (sg.fr fh) ?_
            have hne2 : ρg 24 + 0 ≠ ρg 16 + 0 := hne2
            rw [v24, alg 16 (by decide), hag4 16 (by decide), l16, Int.add_zero, Int.add_zero] at hne2
            by_cases q : ρ4 17 = j
            · rw [q] at hne2
              exact absurd rfl hne2
            · omega
        · rw [List.mem_singleton] at ho
          subst ho
          refine more tnp_r1 _ rfl rfl ⟨rfl, rfl⟩ ρ9 ws9 hE9 al9 s9 ?_
          by_cases q : ρ4 17 = j
          · have h19 : ρ9 19 ≤ 0 := (hE9 19).2.1
            unfold tn_b at j3
            rw [a9 19 (by decide), show ρ8 19 = ρ8 19 + 0 by omega, v8, q, if_pos j3] at h19
            omega
          · omega
      refine tn_at.wi (n0 := 17) (w := tnp_mw) (E0 := tnp_l0.1) (ρ0 := ρl) (xs := [(0, 0, 0, 0)]) rfl (by decide) rfl hEl (fun k hk => rfl) ⟨rfl, rfl⟩ ?_
      refine inner _ _ wsl (fun k hk => by rw [tk_rw.lt hk]) sl rfl ?_
      show ρl 0 + 0 ≤ j
      rw [zl]
      omega
    · rw [List.mem_singleton] at ho
      subst ho
      exact fin (127, tnp_j1) _ ⟨_, _, rfl, rfl⟩ rfl ρ2 ws2 ⟨by decide, fun k hk => by rw [al2 k (by omega), ali k hk]⟩
  refine tn_at.wi (n0 := 12) (w := tnp_hw) (E0 := tnp_i0.1) (ρ0 := ρi) (xs := [(0, 0, 0, 0), (0, 2, 0, 0), (0, 0, 0, 0)]) rfl (by decide) rfl hEi (fun k hk => rfl) ⟨rfl, rfl⟩ ?_
  refine head _ _ wsi (fun k hk => by rw [tk_rw.lt hk]) tn_sw.rf rfl ?_ ?_
  · show ρi 2 + 0 < _
    rw [ali 2 (by decide), Int.add_zero]
    exact n3
  · show (tn_cnt (ρi 2 + 0).toNat : Int) + (ρi 0 + 0) = _
    rw [ali 2 (by decide), zi, Int.add_zero, Int.add_zero, Int.add_zero]
end HE
