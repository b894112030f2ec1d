/-! ===== onFrom of the reference, with words on what it answers ===== -/
section HB
variable {l : Launch} {D : va_G} {A : Nat → Prop}
/-- all cells of a start as they were -/
def tn_sw (B : tk_B) (ws ws1 : va_W) : Prop := ∀ (z : Int) (κ : Nat), tl_kd B z κ → ∀ i : Nat, tl_pl ws1 z i = tl_pl ws z i
theorem tn_sw.rf {B : tk_B} {ws : va_W} : tn_sw B ws ws := fun _ _ _ _ => rfl
theorem tn_sw.fr {B : tk_B} {ws ws1 ws2 : va_W} (h : tn_sw B ws ws1) (hf : tk_fr [] B ws1 ws2) : tn_sw B ws ws2 := fun z κ hk i => by
  rw [tl_pl.fr hf hk rfl]
  exact h z κ hk i
theorem tn_sw.gi {B : tk_B} {ws ws1 : va_W} (h : tn_sw B ws ws1) {z : Int} {κ : Nat} (hk : tl_kd B z κ) (i : Nat) : tn_gi ws1 z i = tn_gi ws z i := by
  unfold tn_gi
  rw [h z κ hk i]
theorem tn_sw.mn {B : tk_B} {ws ws1 : va_W} (h : tn_sw B ws ws1) {zx zy : Int} {κx κy : Nat} (hx : tl_kd B zx κx) (hy : tl_kd B zy κy) (a b : Int) : tn_mn ws1 zx zy a b = tn_mn ws zx zy a b := by
  unfold tn_mn
  rw [h.gi hx, h.gi hx, h.gi hy, h.gi hy]
/-- is j in the set u -/
def tn_b (u j : Int) : Bool := u.toNat.testBit j.toNat
theorem tn_b.some {u n : Int} (h0 : 0 ≤ u) (hn : 0 ≤ n) (hn2 : n ≤ 12) (h : u < (2 : Int) ^ n.toNat) (hne : u ≠ 0) : ∃ j : Int, 0 ≤ j ∧ j < n ∧ tn_b u j = true := by
  obtain ⟨-, -, p3⟩ := tn_pw ⟨n.toNat, by omega⟩
  dsimp only at p3
  rw [p3] at h
  obtain ⟨k, k1, k2⟩ := tn_some (r := u.toNat) (n := n.toNat) (by omega) (by omega)
  refine ⟨k, by omega, by omega, ?_⟩
  unfold tn_b
  rw [Int.toNat_natCast]
  exact k2
theorem tn_b.lt {u n j : Int} (h0 : 0 ≤ u) (hn : 0 ≤ n) (hn2 : n ≤ 12) (h : u < (2 : Int) ^ n.toNat) (hj : 0 ≤ j) (hb : tn_b u j = true) : j < n := by
  obtain ⟨-, -, p3⟩ := tn_pw ⟨n.toNat, by omega⟩
  dsimp only at p3
  rw [p3] at h
  by_cases q : j < n
  · exact q
  · unfold tn_b at hb
    rw [Nat.testBit_lt_two_pow (Nat.lt_of_lt_of_le (show u.toNat < 2 ^ n.toNat by omega) (Nat.pow_le_pow_right (by decide) (by omega)))] at hb
    cases hb
def tnf_f (ρ : Nat → Int) (ws : va_W) (j : Int) : Int := tn_mn ws (ρ 6) (ρ 7) (ρ 2) j + tn_gi ws (ρ 8) (12 * ρ 3 + j).toNat
def tnf_P (ρ : Nat → Int) (_ : tk_B) (ws : va_W) : Prop := ρ 3 < (2 : Int) ^ (ρ 5).toNat ∧ ∀ j : Int, 0 ≤ j → tn_b (ρ 3) j = true → 0 ≤ tn_gi ws (ρ 8) (12 * ρ 3 + j).toNat ∧ tn_gi ws (ρ 8) (12 * ρ 3 + j).toNat ≤ 198 * ρ 3
def tnf_Z (ρ : Nat → Int) (_ : tk_B) (ws : va_W) (ρe : Nat → Int) (_ : tk_A) (_ : tk_B) (_ : va_W) (_ _ : Heap) : Prop := (ρ 3 = 0 → ρe 9 = 0) ∧ (ρ 3 ≠ 0 → ∃ j : Int, 0 ≤ j ∧ j < ρ 5 ∧ tn_b (ρ 3) j = true ∧ ρe 9 = tnf_f ρ ws j ∧ tn_mn ws (ρ 6) (ρ 7) (ρ 2) j ≤ 198)
def tnf_I (ρ : Nat → Int) (ws : va_W) (v k : Int) : Prop := (ρ 3 = 0 → v = 0) ∧ (ρ 3 ≠ 0 → (v = 1000000 ∧ ∀ j : Int, 0 ≤ j → j < k → tn_b (ρ 3) j = false) ∨ ∃ j : Int, 0 ≤ j ∧ j < k ∧ tn_b (ρ 3) j = true ∧ v = tnf_f ρ ws j ∧ tn_mn ws (ρ 6) (ρ 7) (ρ 2) j ≤ 198)
set_option maxHeartbeats 16000000 in
theorem tnf_con : ty_NCon l D A tnf_k tnf_P tnf_Z := by
  refine tn_walk (k := tnf_k) (show (312 : Nat) ≠ 0 by decide) (tw_mv (y := 312) (by decide) (by decide)) (Nat.le_of_ble_eq_true rfl) ?_
  intro ρ B ws H p e s m args below meth c hE h0 hP hX hr hlocks hH hM
  obtain ⟨hP1, hP2⟩ := hP
  have k6 : tl_kd B (ρ 6) 57 := (tl_j1 (a := 6) (i := 24) (κ := 57) (zm := (1, 0)) hE hM (by decide)).1
  have k7 : tl_kd B (ρ 7) 58 := (tl_j1 (a := 7) (i := 25) (κ := 58) (zm := (1, 0)) hE hM (by decide)).1
  have k8 : tl_kd B (ρ 8) 93 := (tl_j1 (a := 8) (i := 69) (κ := 93) (zm := (1, 0)) hE hM (by decide)).1
  have r3 : 0 ≤ ρ 3 ∧ ρ 3 ≤ 4095 := ⟨(hE 3).1, (hE 3).2.1⟩
  have r5 : 0 ≤ ρ 5 ∧ ρ 5 ≤ 12 := ⟨(hE 5).1, (hE 5).2.1⟩
  have fin : ∀ (o : Nat × tk_S) (xs : List tk_Lx), tk_Ret tt_T 312 o → tk_wi 9 0 0 tnf_w0 (o.2.1, [], o.2.2.2.1, o.2.2.2.2.1, 0, 0) = some xs → ∀ (ρ' : Nat → Int) (ws' : va_W), tk_ag 9 ρ o.2.1.length ρ' → ((ρ 3 = 0 → tk_rw 9 xs ρ' 9 = 0) ∧ (ρ 3 ≠ 0 → ∃ j : Int, 0 ≤ j ∧ j < ρ 5 ∧ tn_b (ρ 3) j = true ∧ tk_rw 9 xs ρ' 9 = tnf_f ρ ws j ∧ tn_mn ws (ρ 6) (ρ 7) (ρ 2) j ≤ 198)) → tn_at p l e (tk_rm tt_T 312) s m args below meth c (MQ below (tn_Qc tt_T D tw_cl A tnf_k ρ B ws (tnf_Z ρ B ws)) args s (tk_Tmi tt_T 312).2.2.1 (tk_Tmi tt_T 312).2.2.2.1 A) D A H tnf_F B ws 312 o.1 o.2 ρ' ws' := fun o xs hR hxs ρ' ws' hg hv =>
    tn_at.ret (k := tnf_k) (w := tnf_w0) (show (312 : Nat) ≠ 0 by decide) (tw_mv (y := 312) (by decide) (by decide)) hX hr hlocks hH hR hE hg List.mem_cons_self hxs (fun _ _ => hv)
  have head : ∀ (n : Nat) (ρ1 : Nat → Int) (ws1 : va_W), (∀ k, k < 9 → ρ1 k = ρ k) → tn_sw B ws ws1 → (12 - ρ1 10).toNat = n → tnf_I ρ ws (ρ1 9) (ρ1 10) → tn_at p l e (tk_rm tt_T 312) s m args below meth c (MQ below (tn_Qc tt_T D tw_cl A tnf_k ρ B ws (tnf_Z ρ B ws)) args s (tk_Tmi tt_T 312).2.2.1 (tk_Tmi tt_T 312).2.2.2.1 A) D A H tnf_F B ws 312 15 tnf_h ρ1 ws1 := by
    intro n
    induction n using Nat.strongRecOn with
    | ind n ih =>
    intro ρ1 ws1 hag hsw hn hI
    -- one more round
    have more : ∀ (o : tk_S) (a : Nat) (b : Int), tk_wi 9 0 0 tnf_hw o = some [(0, a, 0, b), (0, 10, 0, 1)] → o.2.2.2.2.1 = 0 ∧ o.2.2.2.2.2 = 0 → ∀ (ρ' : Nat → Int) (ws' : va_W), (∀ k, k < 11 → ρ' k = ρ1 k) → tn_sw B ws ws' → ρ1 10 ≤ 11 → tnf_I ρ ws (ρ' a + b) (ρ1 10 + 1) → tn_at p l e (tk_rm tt_T 312) s m args below meth c (MQ below (tn_Qc tt_T D tw_cl A tnf_k ρ B ws (tnf_Z ρ B ws)) args s (tk_Tmi tt_T 312).2.2.1 (tk_Tmi tt_T 312).2.2.2.1 A) D A H tnf_F B ws 312 15 o ρ' ws' := fun o a b hxs hcs ρ' ws' hr' hs' hk hI' => by
      refine tn_at.wi (n0 := 9) (E0 := tk_E0 tnf_k) (ρ0 := ρ) hxs (by decide) rfl hE (fun k hk => by rw [hr' k (by omega), hag k hk]) hcs ?_
      refine ih (12 - (ρ1 10 + 1)).toNat (by omega) _ ws' (fun k hk => by rw [tk_rw.lt hk, hr' k (by omega), hag k hk]) hs' ?_ ?_
      · show (12 - (ρ' 10 + 1)).toNat = _
        rw [hr' 10 (by decide)]
      · show tnf_I ρ ws (ρ' a + b) (ρ' 10 + 1)
        rw [hr' 10 (by decide)]
        exact hI'
    refine tn_at.seg (S := tnf_h) hX ty_Ks tnf_rb rfl (fun o ho ρ2 ws2 hE2 z2 g2 f2 => ?_)
    have a2 : ∀ k, k < 11 → ρ2 k = ρ1 k := fun k hk => g2.2 k hk
    have s2 := hsw.fr f2
    rcases List.mem_cons.mp ho with rfl | ho
    · have b10 : 0 ≤ ρ2 10 ∧ ρ2 10 ≤ 11 := ⟨(hE2 10).1, (hE2 10).2.1⟩
      rw [a2 10 (by decide)] at b10
      refine tn_at.ishr (a := (3, 0)) (b := (10, 0)) hX rfl rfl (fun ρ3 hE3 g3 v3 => ?_)
      have a3 : ∀ k, k < 12 → ρ3 k = ρ2 k := fun k hk => g3.2 k hk
      have v3 : ρ3 12 + 0 = (Int32.ofInt (ρ2 3 + 0) >>> (Int32.ofInt (ρ2 10 + 0) &&& 31)).toInt := v3
      rw [a2 3 (by decide), a2 10 (by decide), hag 3 (by decide), Int.add_zero, Int.add_zero, Int.add_zero] at v3
      refine tn_at.seg (S := tnf_c) hX ty_Ks tnf_rd rfl (fun o ho ρ4 ws4 hE4 z4 g4 f4 => ?_)
      rw [List.mem_singleton] at ho
      subst ho
      have a4 : ∀ k, k < 13 → ρ4 k = ρ3 k := fun k hk => g4.2 k hk
      have s4 := s2.fr f4
      refine tn_at.iand (a := (12, 0)) (b := (0, 1)) hX rfl rfl (fun ρ5 hE5 g5 v5 => ?_)
      have a5 : ∀ k, k < 13 → ρ5 k = ρ4 k := fun k hk => g5.2 k hk
      have v5 : ρ5 13 + 0 = (Int32.ofInt (ρ4 12 + 0) &&& Int32.ofInt (ρ4 0 + 1)).toInt := v5
      rw [a4 12 (by decide), z4, Int.add_zero, Int.add_zero, v3, show (0 : Int) + 1 = 1 from rfl, tn_bit r3.1 r3.2 b10.1 b10.2] at v5
      refine tn_at.seg (S := tnf_e) hX ty_Ks tnf_rf rfl (fun o ho ρ6 ws6 hE6 z6 g6 f6 => ?_)
      have a6 : ∀ k, k < 14 → ρ6 k = ρ5 k := fun k hk => g6.2 k hk
      have s6 := s4.fr f6
      have al6 : ∀ k, k < 11 → ρ6 k = ρ1 k := fun k hk => by rw [a6 k (by omega), a5 k (by omega), a4 k (by omega), a3 k (by omega), a2 k hk]
      rcases List.mem_cons.mp ho with rfl | ho
      · -- it is in the set
        have hb : tn_b (ρ 3) (ρ1 10) = true := by
          have h13 : 1 ≤ ρ6 13 := (hE6 13).1
          rw [a6 13 (by decide), v5] at h13
          unfold tn_b
          by_cases q : (ρ 3).toNat.testBit (ρ1 10).toNat = true
          · exact q
          · rw [if_neg q] at h13
            omega
        have h30 : ρ 3 ≠ 0 := fun q => by
          unfold tn_b at hb
          rw [q] at hb
          simp at hb
        obtain ⟨c1, c2⟩ := hP2 (ρ1 10) b10.1 hb
        refine tn_at.call (k := tnm_k) (xs := tnf_xg) (as := tnf_ag) (K' := tnf_qg) (rs := [tnf_g0]) hX tnm_con rfl rfl rfl rfl rfl (fun _ _ _ => trivial) (fun w r hwr ρ7 ws7 hE7 g7 f7 hz7 => ?_)
        rw [show List.zip tnm_k.2.2.2.2.1 [tnf_g0] = [(tnm_w0, tnf_g0)] from rfl, List.mem_singleton] at hwr
        cases hwr
        have a7 : ∀ k, k < 14 → ρ7 k = ρ6 k := fun k hk => g7.2 k hk
        have s7 := s6.fr f7
        have v7 : ρ7 14 = tn_mn ws (ρ 6) (ρ 7) (ρ 2) (ρ1 10) := by
          obtain ⟨ρe, _, _, _, _, q1, q2⟩ := hz7
          have q1 : ρ7 14 = ρe 6 := q1 0
          have q2 : ρe 6 = tn_mn ws6 (ρ6 6 + 0) (ρ6 7 + 0) (ρ6 2 + 0) (ρ6 10 + 0) := q2
          rw [q1, q2, Int.add_zero, Int.add_zero, Int.add_zero, Int.add_zero, al6 6 (by decide), al6 7 (by decide), al6 2 (by decide), al6 10 (by decide), hag 6 (by decide), hag 7 (by decide), hag 2 (by decide)]
          exact s6.mn k6 k7 _ _
        have m7 : 0 ≤ ρ7 14 ∧ ρ7 14 ≤ 198 := ⟨(hE7 14).1, (hE7 14).2.1⟩
        refine tn_at.seg (S := tnf_g0) hX ty_Ks tnf_ri rfl (fun o ho ρ8 ws8 hE8 z8 g8 f8 => ?_)
        rw [List.mem_singleton] at ho
        subst ho
        have a8 : ∀ k, k < 15 → ρ8 k = ρ7 k := fun k hk => g8.2 k hk
        have s8 := s7.fr f8
        refine tn_at.imul (a := (0, 12)) (b := (3, 0)) hX rfl rfl (fun ρ9 hE9 g9 v9 => ?_)
        have a9 : ∀ k, k < 15 → ρ9 k = ρ8 k := fun k hk => g9.2 k hk
        have v9 : ρ9 15 + 0 = (Int32.ofInt (ρ8 0 + 12) * Int32.ofInt (ρ8 3 + 0)).toInt := v9
        rw [z8, a8 3 (by decide), a7 3 (by decide), al6 3 (by decide), hag 3 (by decide), Int.add_zero, Int.add_zero, show (0 : Int) + 12 = 12 from rfl, tn_mul r3.1 r3.2] at v9
        refine tn_at.seg (S := tnf_j) hX ty_Ks tnf_rk rfl (fun o ho ρa wsa hEa za ga fa => ?_)
        rw [List.mem_singleton] at ho
        subst ho
        have aa : ∀ k, k < 16 → ρa k = ρ9 k := fun k hk => ga.2 k hk
        have sa := s8.fr fa
        have d16 : ρa 16 = ρa 15 + ρa 10 + 0 := (hEa 16).2.2.2.1 rfl
        have ala : ∀ k, k < 11 → ρa k = ρ1 k := fun k hk => by rw [aa k (by omega), a9 k (by omega), a8 k (by omega), a7 k (by omega), al6 k hk]
        refine tn_at.iald (t := 103) (a := (8, 0)) (i := (16, 0)) (lo := -2147483648) (hi := 2147483647) hX rfl rfl rfl ⟨rfl, rfl⟩ rfl rfl (fun ρb hEb gb vb => ?_)
        have ab : ∀ k, k < 17 → ρb k = ρa k := fun k hk => gb.2 k hk
        have vb : ρb 17 = tn_gi wsa (ρa 8 + 0) (ρa 16 + 0).toNat := vb
        rw [Int.add_zero, Int.add_zero, d16, ala 8 (by decide), ala 10 (by decide), aa 15 (by decide), v9, hag 8 (by decide), Int.add_zero, sa.gi k8] at vb
        refine tn_at.rf (E' := tnf_m.1) (show tk_env ρb (tk_rf tnf_l.1 17 0 810810) from tk_rf.ok hEb (by omega) (by omega)) rfl ?_
        refine tn_at.seg (S := tnf_m) hX ty_Ks tnf_rn rfl (fun o ho ρc wsc hEc zc gc fc => ?_)
        have ac : ∀ k, k < 18 → ρc k = ρb k := fun k hk => gc.2 k hk
        have sc := sa.fr fc
        have alc : ∀ k, k < 11 → ρc k = ρ1 k := fun k hk => by rw [ac k (by omega), ab k (by omega), ala k hk]
        have hf : ρc 14 + ρc 17 = tnf_f ρ ws (ρ1 10) := by
          unfold tnf_f
          rw [ac 14 (by decide), ab 14 (by decide), aa 14 (by decide), a9 14 (by decide), a8 14 (by decide), v7, ac 17 (by decide), vb]
        rcases List.mem_cons.mp ho with rfl | ho
        · -- fewer
          refine tn_at.call (k := tnm_k) (xs := tnf_xo) (as := tnf_ao) (K' := tnf_qo) (rs := [tnf_o0]) hX tnm_con rfl rfl rfl rfl rfl (fun _ _ _ => trivial) (fun w r hwr ρd wsd hEd gd fd hzd => ?_)
          rw [show List.zip tnm_k.2.2.2.2.1 [tnf_o0] = [(tnm_w0, tnf_o0)] from rfl, List.mem_singleton] at hwr
          cases hwr
          have ad : ∀ k, k < 20 → ρd k = ρc k := fun k hk => gd.2 k hk
          have sd := sc.fr fd
          have vd : ρd 20 = tn_mn ws (ρ 6) (ρ 7) (ρ 2) (ρ1 10) := by
            obtain ⟨ρe, _, _, _, _, q1, q2⟩ := hzd
            have q1 : ρd 20 = ρe 6 := q1 0
            have q2 : ρe 6 = tn_mn wsc (ρc 6 + 0) (ρc 7 + 0) (ρc 2 + 0) (ρc 10 + 0) := q2
            rw [q1, q2, Int.add_zero, Int.add_zero, Int.add_zero, Int.add_zero, alc 6 (by decide), alc 7 (by decide), alc 2 (by decide), alc 10 (by decide), hag 6 (by decide), hag 7 (by decide), hag 2 (by decide)]
            exact sc.mn k6 k7 _ _
          refine tn_at.seg (S := tnf_o0) hX ty_Ks tnf_rp rfl (fun o ho ρe wse hEe ze ge fe => ?_)
          rw [List.mem_singleton] at ho
          subst ho
          have ae : ∀ k, k < 21 → ρe k = ρd k := fun k hk => ge.2 k hk
          have se := sd.fr fe
          refine tn_at.imul (a := (0, 12)) (b := (3, 0)) hX rfl rfl (fun ρf hEf gf vf => ?_)
          have af : ∀ k, k < 21 → ρf k = ρe k := fun k hk => gf.2 k hk
          have vf : ρf 21 + 0 = (Int32.ofInt (ρe 0 + 12) * Int32.ofInt (ρe 3 + 0)).toInt := vf
          rw [ze, ae 3 (by decide), ad 3 (by decide), alc 3 (by decide), hag 3 (by decide), Int.add_zero, Int.add_zero, show (0 : Int) + 12 = 12 from rfl, tn_mul r3.1 r3.2] at vf
          refine tn_at.seg (S := tnf_q) hX ty_Ks tnf_rr rfl (fun o ho ρg wsg hEg zg gg fg => ?_)
          rw [List.mem_singleton] at ho
          subst ho
          have ag : ∀ k, k < 22 → ρg k = ρf k := fun k hk => gg.2 k hk
          have sg := se.fr fg
          have d22 : ρg 22 = ρg 21 + ρg 10 + 0 := (hEg 22).2.2.2.1 rfl
          have alg : ∀ k, k < 11 → ρg k = ρ1 k := fun k hk => by rw [ag k (by omega), af k (by omega), ae k (by omega), ad k (by omega), alc k hk]
          refine tn_at.iald (t := 103) (a := (8, 0)) (i := (22, 0)) (lo := -2147483648) (hi := 2147483647) hX rfl rfl rfl ⟨rfl, rfl⟩ rfl rfl (fun ρh hEh gh vh => ?_)
          have ah : ∀ k, k < 23 → ρh k = ρg k := fun k hk => gh.2 k hk
          have vh : ρh 23 = tn_gi wsg (ρg 8 + 0) (ρg 22 + 0).toNat := vh
          rw [Int.add_zero, Int.add_zero, d22, alg 8 (by decide), alg 10 (by decide), ag 21 (by decide), vf, hag 8 (by decide), Int.add_zero, sg.gi k8] at vh
          refine tn_at.rf (E' := tnf_t.1) (show tk_env ρh (tk_rf tnf_s.1 23 0 810810) from tk_rf.ok hEh (by omega) (by omega)) rfl ?_
          refine tn_at.seg (S := tnf_t) hX ty_Ks tnf_ru rfl (fun o ho ρi wsi hEi zi gi fi => ?_)
          rw [List.mem_singleton] at ho
          subst ho
          have ai : ∀ k, k < 24 → ρi k = ρh k := fun k hk => gi.2 k hk
          have d24 : ρi 24 = ρi 20 + ρi 23 + 0 := (hEi 24).2.2.2.1 rfl
          have v24 : ρi 24 = tnf_f ρ ws (ρ1 10) := by
            unfold tnf_f
            rw [d24, ai 20 (by decide), ah 20 (by decide), ag 20 (by decide), af 20 (by decide), ae 20 (by decide), vd, ai 23 (by decide), vh, Int.add_zero]
          refine more tnf_u0 24 0 rfl ⟨rfl, rfl⟩ ρi wsi (fun k hk => by rw [ai k (by omega), ah k (by omega), alg k hk]) (sg.fr fi) (by omega) ⟨fun q => absurd q h30, fun _ => Or.inr ⟨ρ1 10, b10.1, by omega, hb, by rw [v24, Int.add_zero], by rw [← v7]; exact m7.2⟩⟩
        · -- not fewer
          rw [List.mem_singleton] at ho
          subst ho
          have d18 : ρc 18 = ρc 14 + ρc 17 + 0 := (hEc 18).2.2.2.1 rfl
          have d19 : ρc 19 = ρc 18 - ρc 9 + 0 := (hEc 19).2.2.2.2 rfl
          have b19 : 0 ≤ ρc 19 := (hEc 19).1
          have b14 : ρc 14 ≤ 198 := (hEc 14).2.1
          have b17 : ρc 17 ≤ 810810 := (hEc 17).2.1
          refine more tnf_n1 9 0 rfl ⟨rfl, rfl⟩ ρc wsc alc sc (by omega) ⟨fun q => absurd q h30, fun _ => ?_⟩
          rw [alc 9 (by decide), Int.add_zero]
          rcases hI.2 h30 with ⟨q1, q2⟩ | ⟨j, q1, q2, q3, q4⟩
          · have e9 := alc 9 (by decide)
            omega
          · exact Or.inr ⟨j, q1, by omega, q3, q4⟩
      · -- it is not in the set
        rw [List.mem_singleton] at ho
        subst ho
        have hb : tn_b (ρ 3) (ρ1 10) = false := by
          have h13 : ρ6 13 ≤ 0 := (hE6 13).2.1
          rw [a6 13 (by decide), v5] at h13
          unfold tn_b
          by_cases q : (ρ 3).toNat.testBit (ρ1 10).toNat = true
          · rw [if_pos q] at h13
            omega
          · simpa using q
        refine more tnf_f1 9 0 rfl ⟨rfl, rfl⟩ ρ6 ws6 al6 s6 (by omega) ⟨fun q => ?_, fun q => ?_⟩
        · rw [al6 9 (by decide), Int.add_zero]
          exact hI.1 q
        · rw [al6 9 (by decide), Int.add_zero]
          rcases hI.2 q with ⟨q1, q2⟩ | ⟨j, q1, q2, q3, q4⟩
          · refine Or.inl ⟨q1, fun j j1 j2 => ?_⟩
            by_cases e : j = ρ1 10
            · rw [e]
              exact hb
            · exact q2 j j1 (by omega)
          · exact Or.inr ⟨j, q1, by omega, q3, q4⟩
    · rw [List.mem_singleton] at ho
      subst ho
      have d11 : ρ2 11 = ρ2 10 - ρ2 5 + 0 := (hE2 11).2.2.2.2 rfl
      have b11 : 0 ≤ ρ2 11 := (hE2 11).1
      have e10 := a2 10 (by decide)
      have e5 := a2 5 (by decide)
      have e5' := hag 5 (by decide)
      have hv : (ρ 3 = 0 → ρ2 9 + 0 = 0) ∧ (ρ 3 ≠ 0 → ∃ j : Int, 0 ≤ j ∧ j < ρ 5 ∧ tn_b (ρ 3) j = true ∧ ρ2 9 + 0 = tnf_f ρ ws j ∧ tn_mn ws (ρ 6) (ρ 7) (ρ 2) j ≤ 198) := by
        rw [a2 9 (by decide), Int.add_zero]
        refine ⟨hI.1, fun q => ?_⟩
        obtain ⟨j0, j1, j2, j3⟩ := tn_b.some r3.1 r5.1 r5.2 hP1 q
        rcases hI.2 q with ⟨q1, q2⟩ | ⟨j, q1, q2, q3, q4⟩
        · have := q2 j0 j1 (by omega)
          rw [j3] at this
          cases this
        · exact ⟨j, q1, tn_b.lt r3.1 r5.1 r5.2 hP1 q1 q3, q3, q4⟩
      have hb9 : ρ2 9 ≤ 811008 := by
        by_cases q : ρ 3 = 0
        · have := hv.1 q
          omega
        · obtain ⟨j, j1, j2, j3, j4, j5⟩ := hv.2 q
          obtain ⟨-, c2⟩ := hP2 j j1 j3
          unfold tnf_f at j4
          omega
      refine tn_at.rf (E' := tk_rh tnf_b1.1 9 811008) (tk_rh.ok hE2 hb9) rfl ?_
      exact fin (88, (tk_rh tnf_b1.1 9 811008, tnf_b1.2)) _ ⟨_, _, rfl, rfl⟩ rfl ρ2 ws2 ⟨by decide, fun k hk => by rw [a2 k (by omega), hag k hk]⟩ hv
  refine tn_at.seg (S := tnf_S) hX ty_Ks tnf_ra rfl (fun o ho ρ1 ws1 hE1 z1 g1 f1 => ?_)
  have a1 : ∀ k, k < 9 → ρ1 k = ρ k := fun k hk => g1.2 k hk
  rcases List.mem_cons.mp ho with rfl | ho
  · have b3 : ρ1 3 ≤ 0 := (hE1 3).2.1
    rw [a1 3 (by decide)] at b3
    refine tn_at.wi (n0 := 9) (w := tnf_hw) (E0 := tk_E0 tnf_k) (ρ0 := ρ) (xs := [(0, 0, 0, 0), (0, 0, 0, 0)]) rfl (by decide) rfl hE a1 ⟨rfl, rfl⟩ ?_
    refine head _ _ ws1 (fun k hk => by rw [tk_rw.lt hk, a1 k hk]) (tn_sw.rf.fr f1) rfl ⟨fun _ => ?_, fun q => absurd (show ρ 3 = 0 by omega) q⟩
    show ρ1 0 + 0 = 0
    rw [z1]
    rfl
  · rw [List.mem_singleton] at ho
    subst ho
    have b3 : 1 ≤ ρ1 3 := (hE1 3).1
    rw [a1 3 (by decide)] at b3
    refine tn_at.wi (n0 := 9) (w := tnf_hw) (E0 := tk_E0 tnf_k) (ρ0 := ρ) (xs := [(0, 0, 0, 1000000), (0, 0, 0, 0)]) rfl (by decide) rfl hE a1 ⟨rfl, rfl⟩ ?_
    refine head _ _ ws1 (fun k hk => by rw [tk_rw.lt hk, a1 k hk]) (tn_sw.rf.fr f1) rfl ⟨fun q => by omega, fun _ => Or.inl ⟨?_, fun j j1 j2 => ?_⟩⟩
    · show ρ1 0 + 1000000 = 1000000
      rw [z1]
      rfl
    · have j2 : j < ρ1 0 + 0 := j2
      rw [z1] at j2
      omega
end HB
