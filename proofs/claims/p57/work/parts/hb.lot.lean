/-! ===== lot of the reference ===== -/
theorem tn_z.or {r k n : Nat} (hk : k < n) (h : r.testBit k = false) : tn_z (fun j => r.testBit j) 0 n = tn_z (fun j => (r ||| 2 ^ k).testBit j) 0 n + 1 :=
  tn_z.one (f := fun j => r.testBit j) (g := fun j => (r ||| 2 ^ k).testBit j) (i := k) (fun j hj => by rw [tn_or.bit]; simp [Ne.symm hj]) h (by rw [tn_or.bit]; simp) (Nat.zero_le _) (by omega)
section HF
variable {l : Launch} {D : va_G} {A : Nat → Prop}
set_option maxHeartbeats 32000000 in
theorem tnl_con : ty_NCon l D A tnl_k (fun _ _ _ => True) (fun _ _ _ _ _ _ _ _ _ => True) := by
  refine tn_walk (k := tnl_k) (show (310 : Nat) ≠ 0 by decide) (tw_mv (y := 310) (by decide) (by decide)) (Nat.le_of_ble_eq_true rfl) ?_
  intro ρ B ws H p e s m args below meth c hE h0 _ hX hr hlocks hH hM
  have r7 : 0 ≤ ρ 7 ∧ ρ 7 ≤ 12 := ⟨(hE 7).1, (hE 7).2.1⟩
  have fin : ∀ (o : Nat × tk_S) (xs : List tk_Lx), tk_Ret tt_T 310 o → tk_wi 8 0 0 tnl_w0 (o.2.1, [], o.2.2.2.1, o.2.2.2.2.1, 0, 0) = some xs → ∀ (ρ' : Nat → Int) (ws' : va_W), tk_ag 8 ρ o.2.1.length ρ' → tn_at p l e (tk_rm tt_T 310) s m args below meth c (MQ below (tn_Qc tt_T D tw_cl A tnl_k ρ B ws (fun _ _ _ _ _ _ => True)) args s (tk_Tmi tt_T 310).2.2.1 (tk_Tmi tt_T 310).2.2.2.1 A) D A H tnl_F B ws 310 o.1 o.2 ρ' ws' := fun o xs hR hxs ρ' ws' hg =>
    tn_at.ret (k := tnl_k) (w := tnl_w0) (Z := fun _ _ _ _ _ _ => True) (show (310 : Nat) ≠ 0 by decide) (tw_mv (y := 310) (by decide) (by decide)) hX hr hlocks hH hR hE hg List.mem_cons_self hxs (fun _ _ => trivial)
  refine tn_at.seg (S := tnl_S) (F' := tnl_F) hX ty_Ks tnl_ra rfl (fun o ho ρa wsa hEa za ga fa => ?_)
  have aa : ∀ k, k < 8 → ρa k = ρ k := fun k hk => ga.2 k hk
  have key : o = (75, tnl_a6) → tn_at p l e (tk_rm tt_T 310) s m args below meth c (MQ below (tn_Qc tt_T D tw_cl A tnl_k ρ B ws (fun _ _ _ _ _ _ => True)) args s (tk_Tmi tt_T 310).2.2.1 (tk_Tmi tt_T 310).2.2.2.1 A) D A H tnl_F B ws 310 o.1 o.2 ρa wsa := by
    intro ho
    subst ho
    have d8 : ρa 8 = ρa 3 - ρa 7 + 0 := (hEa 8).2.2.2.2 rfl
    have b8 : ρa 8 ≤ 0 := (hEa 8).2.1
    have e7 := aa 7 (by decide)
    have head : ∀ (n : Nat) (ρ1 : Nat → Int) (ws1 : va_W), (∀ k, k < 9 → ρ1 k = ρa k) → (12 - ρ1 12).toNat = n → (tn_z (fun j => (ρ1 10).toNat.testBit j) 0 (ρ 7).toNat : Int) + ρ1 12 = ρ 7 → tn_at p l e (tk_rm tt_T 310) s m args below meth c (MQ below (tn_Qc tt_T D tw_cl A tnl_k ρ B ws (fun _ _ _ _ _ _ => True)) args s (tk_Tmi tt_T 310).2.2.1 (tk_Tmi tt_T 310).2.2.2.1 A) D A H tnl_F B ws 310 75 tnl_h ρ1 ws1 := by
      intro n
      induction n using Nat.strongRecOn with
      | ind n ih =>
      intro ρ1 ws1 hag hn hI
      refine tn_at.seg (S := tnl_h) hX ty_Ks tnl_rb rfl (fun o ho ρ2 ws2 hE2 z2 g2 f2 => ?_)
      have a2 : ∀ k, k < 13 → ρ2 k = ρ1 k := fun k hk => g2.2 k hk
      rcases List.mem_cons.mp ho with rfl | ho
      · have d13 : ρ2 13 = ρ2 12 - ρ2 3 + 0 := (hE2 13).2.2.2.2 rfl
        have b13 : ρ2 13 ≤ -1 := (hE2 13).2.1
        have d17 : ρ2 17 = ρ2 7 - ρ2 12 + 0 := (hE2 17).2.2.2.2 rfl
        have c17 : ρ2 17 ≤ 12 := (hE2 17).2.1
        have b12 : 0 ≤ ρ2 12 ∧ ρ2 12 ≤ 11 := ⟨(hE2 12).1, (hE2 12).2.1⟩
        have e3 : ρ2 3 = ρa 3 := by rw [a2 3 (by decide), hag 3 (by decide)]
        have e72 : ρ2 7 = ρ 7 := by rw [a2 7 (by decide), hag 7 (by decide), e7]
        have e12 := a2 12 (by decide)
        refine tn_at.rf (E' := tnl_ba.1) (show tk_env ρ2 (tk_rf tnl_b0.1 17 1 12) from tk_rf.ok hE2 (by omega) (by omega)) rfl ?_
        refine tn_at.seg (S := tnl_ba) hX ty_Ks tnl_rbb rfl (fun o ho ρb wsb hEb zb gb fb => ?_)
        rw [List.mem_singleton] at ho
        subst ho
        have ab : ∀ k, k < 18 → ρb k = ρ2 k := fun k hk => gb.2 k hk
        have alb : ∀ k, k < 13 → ρb k = ρ1 k := fun k hk => by rw [ab k (by omega), a2 k hk]
        have d19 : ρb 19 = ρb 18 - ρb 17 + 0 := (hEb 19).2.2.2.2 rfl
        have b19 : ρb 19 ≤ -1 := (hEb 19).2.1
        have e17 := ab 17 (by decide)
        have inner : ∀ (n2 : Nat) (ρ4 : Nat → Int) (ws4 : va_W), (∀ k, k < 20 → ρ4 k = ρb k) → (12 - ρ4 21).toNat = n2 → ρ4 21 < ρ 7 → ρ4 20 < (tn_z (fun j => (ρ1 10).toNat.testBit j) (ρ4 21).toNat (ρ 7 - ρ4 21).toNat : Int) → tn_at p l e (tk_rm tt_T 310) s m args below meth c (MQ below (tn_Qc tt_T D tw_cl A tnl_k ρ B ws (fun _ _ _ _ _ _ => True)) args s (tk_Tmi tt_T 310).2.2.1 (tk_Tmi tt_T 310).2.2.2.1 A) D A H tnl_F B ws 310 120 tnl_g ρ4 ws4 := by
          intro n2
          induction n2 using Nat.strongRecOn with
          | ind n2 ih2 =>
          intro ρ4 ws4 hag4 hn4 hlt4 hI4
          have al4 : ∀ k, k < 13 → ρ4 k = ρ1 k := fun k hk => by rw [hag4 k (by omega), alb k hk]
          refine tn_at.seg (S := tnl_g) hX ty_Ks tnl_rc rfl (fun o ho ρ5 ws5 hE5 z5 g5 f5 => ?_)
          rw [List.mem_singleton] at ho
          subst ho
          have a5 : ∀ k, k < 22 → ρ5 k = ρ4 k := fun k hk => g5.2 k hk
          have b21 : 0 ≤ ρ5 21 ∧ ρ5 21 ≤ 11 := ⟨(hE5 21).1, (hE5 21).2.1⟩
          have b20 : 0 ≤ ρ5 20 ∧ ρ5 20 ≤ 11 := ⟨(hE5 20).1, (hE5 20).2.1⟩
          have b10 : 0 ≤ ρ5 10 ∧ ρ5 10 ≤ 4095 := ⟨(hE5 10).1, (hE5 10).2.1⟩
          have q10 : ρ5 10 = ρ1 10 := by rw [a5 10 (by decide), al4 10 (by decide)]
          rw [a5 21 (by decide)] at b21
          rw [a5 20 (by decide)] at b20
          rw [q10] at b10
          have hzs : tn_z (fun j => (ρ1 10).toNat.testBit j) (ρ4 21).toNat (ρ 7 - ρ4 21).toNat = (if (ρ1 10).toNat.testBit (ρ4 21).toNat = true then 0 else 1) + tn_z (fun j => (ρ1 10).toNat.testBit j) (ρ4 21 + 1).toNat (ρ 7 - (ρ4 21 + 1)).toNat := by
            rw [show (ρ 7 - ρ4 21).toNat = (ρ 7 - (ρ4 21 + 1)).toNat + 1 by omega, show (ρ4 21 + 1).toNat = (ρ4 21).toNat + 1 by omega]
            rfl
          -- one more round
          have more : ∀ (o : tk_S) (E' : tk_E) (b : Int), E' = tk_rh o.1 21 10 → tk_wi 20 0 0 tnl_gw (E', o.2) = some [(0, 20, 0, b), (0, 21, 0, 1)] → o.2.2.2.2.1 = 0 ∧ o.2.2.2.2.2 = 0 → ∀ (ρ' : Nat → Int) (ws' : va_W), tk_env ρ' o.1 → (∀ k, k < 22 → ρ' k = ρ4 k) → 0 ≤ ρ4 20 + b → ρ4 20 + b < (tn_z (fun j => (ρ1 10).toNat.testBit j) (ρ4 21 + 1).toNat (ρ 7 - (ρ4 21 + 1)).toNat : Int) → tn_at p l e (tk_rm tt_T 310) s m args below meth c (MQ below (tn_Qc tt_T D tw_cl A tnl_k ρ B ws (fun _ _ _ _ _ _ => True)) args s (tk_Tmi tt_T 310).2.2.1 (tk_Tmi tt_T 310).2.2.2.1 A) D A H tnl_F B ws 310 120 o ρ' ws' := fun o E' b hE' hxs hcs ρ' ws' hEo hr' h0' hI' => by
            obtain ⟨oE, oL, oK, oM, ocs, oss⟩ := o
            have q21 := hr' 21 (by decide)
            have q20 := hr' 20 (by decide)
            have hz := tn_z.le (f := fun j => (ρ1 10).toNat.testBit j) (n := (ρ 7 - (ρ4 21 + 1)).toNat) (m := (ρ4 21 + 1).toNat)
            refine tn_at.rf (E' := E') (by rw [hE']; exact tk_rh.ok hEo (by omega)) (by rw [hE']; exact tk_rh.len _ _ _) ?_
            refine tn_at.wi (n0 := 20) (E0 := tnl_bb0.1) (ρ0 := ρb) hxs (by decide) rfl hEb (fun k hk => by rw [hr' k (by omega), hag4 k hk]) hcs ?_
            refine ih2 (12 - (ρ4 21 + 1)).toNat (by omega) _ ws' (fun k hk => by rw [tk_rw.lt hk, hr' k (by omega), hag4 k hk]) ?_ ?_ ?_
            · show (12 - (ρ' 21 + 1)).toNat = _
              rw [q21]
            · show ρ' 21 + 1 < ρ 7
              omega
            · show ρ' 20 + b < (tn_z (fun j => (ρ1 10).toNat.testBit j) (ρ' 21 + 1).toNat (ρ 7 - (ρ' 21 + 1)).toNat : Int)
              rw [q21, q20]
              exact hI'
          refine tn_at.ishr (a := (10, 0)) (b := (21, 0)) hX rfl rfl (fun ρ6 hE6 g6 v6 => ?_)
          have a6 : ∀ k, k < 22 → ρ6 k = ρ5 k := fun k hk => g6.2 k hk
          have v6 : ρ6 22 + 0 = (Int32.ofInt (ρ5 10 + 0) >>> (Int32.ofInt (ρ5 21 + 0) &&& 31)).toInt := v6
          rw [q10, a5 21 (by decide), Int.add_zero, Int.add_zero, Int.add_zero] at v6
          refine tn_at.seg (S := tnl_d) hX ty_Ks tnl_re rfl (fun o ho ρ7 ws7 hE7 z7 g7 f7 => ?_)
          rw [List.mem_singleton] at ho
          subst ho
          have a7 : ∀ k, k < 23 → ρ7 k = ρ6 k := fun k hk => g7.2 k hk
          refine tn_at.iand (a := (22, 0)) (b := (0, 1)) hX rfl rfl (fun ρ8 hE8 g8 v8 => ?_)
          have a8 : ∀ k, k < 23 → ρ8 k = ρ7 k := fun k hk => g8.2 k hk
          have v8 : ρ8 23 + 0 = (Int32.ofInt (ρ7 22 + 0) &&& Int32.ofInt (ρ7 0 + 1)).toInt := v8
          rw [a7 22 (by decide), z7, Int.add_zero, Int.add_zero, v6, show (0 : Int) + 1 = 1 from rfl, tn_bit b10.1 b10.2 b21.1 b21.2] at v8
          refine tn_at.seg (S := tnl_f) hX ty_Ks tnl_ri rfl (fun o ho ρ9 ws9 hE9 z9 g9 f9 => ?_)
          have a9 : ∀ k, k < 24 → ρ9 k = ρ8 k := fun k hk => g9.2 k hk
          have al9 : ∀ k, k < 22 → ρ9 k = ρ4 k := fun k hk => by rw [a9 k (by omega), a8 k (by omega), a7 k (by omega), a6 k (by omega), a5 k hk]
          have e23 : ρ9 23 = if (ρ1 10).toNat.testBit (ρ4 21).toNat = true then 1 else 0 := by
            rw [a9 23 (by decide)]
            exact v8
          rcases List.mem_cons.mp ho with rfl | ho
          · -- not drawn, and some are left
            have hb : (ρ1 10).toNat.testBit (ρ4 21).toNat = false := by
              have h23 : ρ9 23 ≤ 0 := (hE9 23).2.1
              rw [e23] at h23
              by_cases q : (ρ1 10).toNat.testBit (ρ4 21).toNat = true
              · rw [if_pos q] at h23
                omega
              · simpa using q
            have h20 : 1 ≤ ρ9 20 := (hE9 20).1
            have q20 := al9 20 (by decide)
            rw [hb] at hzs
            refine tn_at.ishr (a := (10, 0)) (b := (21, 0)) hX rfl rfl (fun ρc hEc gc vc => ?_)
            have ac : ∀ k, k < 24 → ρc k = ρ9 k := fun k hk => gc.2 k hk
            have vc : ρc 24 + 0 = (Int32.ofInt (ρ9 10 + 0) >>> (Int32.ofInt (ρ9 21 + 0) &&& 31)).toInt := vc
            rw [al9 10 (by decide), al9 21 (by decide), al4 10 (by decide), Int.add_zero, Int.add_zero, Int.add_zero] at vc
            refine tn_at.seg (S := tnl_ja) hX ty_Ks tnl_rjb rfl (fun o ho ρd wsd hEd zd gd fd => ?_)
            rw [List.mem_singleton] at ho
            subst ho
            have ad : ∀ k, k < 25 → ρd k = ρc k := fun k hk => gd.2 k hk
            refine tn_at.iand (a := (24, 0)) (b := (0, 1)) hX rfl rfl (fun ρf hEf gf vf => ?_)
            have af : ∀ k, k < 25 → ρf k = ρd k := fun k hk => gf.2 k hk
            have vf : ρf 25 + 0 = (Int32.ofInt (ρd 24 + 0) &&& Int32.ofInt (ρd 0 + 1)).toInt := vf
            rw [ad 24 (by decide), zd, Int.add_zero, Int.add_zero, vc, show (0 : Int) + 1 = 1 from rfl, tn_bit b10.1 b10.2 b21.1 b21.2, hb] at vf
            refine tn_at.seg (S := tnl_jc) hX ty_Ks tnl_rjd rfl (fun o ho ρg wsg hEg zg gg fg => ?_)
            have ag : ∀ k, k < 26 → ρg k = ρf k := fun k hk => gg.2 k hk
            have alg : ∀ k, k < 22 → ρg k = ρ4 k := fun k hk => by rw [ag k (by omega), af k (by omega), ad k (by omega), ac k (by omega), al9 k hk]
            have e25 := ag 25 (by decide)
            have vf : ρf 25 = 0 := vf
            rcases List.mem_cons.mp ho with rfl | ho
            · have : 1 ≤ ρg 25 := (hEg 25).1
              omega
            · rw [List.mem_singleton] at ho
              subst ho
              refine more tnl_jd1 _ (-1) rfl rfl ⟨rfl, rfl⟩ ρg wsg hEg alg (by omega) ?_
              simp only [Bool.false_eq_true, if_false] at hzs
              omega
          rcases List.mem_cons.mp ho with rfl | ho
          · -- it is drawn
            have hb : (ρ1 10).toNat.testBit (ρ4 21).toNat = false := by
              have h23 : ρ9 23 ≤ 0 := (hE9 23).2.1
              rw [e23] at h23
              by_cases q : (ρ1 10).toNat.testBit (ρ4 21).toNat = true
              · rw [if_pos q] at h23
                omega
              · simpa using q
            refine tn_at.ishl (a := (0, 1)) (b := (21, 0)) hX rfl rfl (fun ρc hEc gc vc => ?_)
            have ac : ∀ k, k < 24 → ρc k = ρ9 k := fun k hk => gc.2 k hk
            have vc : ρc 24 + 0 = (Int32.ofInt (ρ9 0 + 1) <<< (Int32.ofInt (ρ9 21 + 0) &&& 31)).toInt := vc
            rw [z9, al9 21 (by decide), show (0 : Int) + 1 = 1 from rfl, Int.add_zero, Int.add_zero, tn_shl (by omega) (by omega)] at vc
            refine tn_at.ior (a := (10, 0)) (b := (24, 0)) hX rfl rfl (fun ρd hEd gd vd => ?_)
            have ad : ∀ k, k < 25 → ρd k = ρc k := fun k hk => gd.2 k hk
            have vd : ρd 25 + 0 = (Int32.ofInt (ρc 10 + 0) ||| Int32.ofInt (ρc 24 + 0)).toInt := vd
            rw [ac 10 (by decide), al9 10 (by decide), al4 10 (by decide), Int.add_zero, Int.add_zero, Int.add_zero, vc, tn_or b10.1 b10.2 b21.1 b21.2] at vd
            have hzo := tn_z.or (r := (ρ1 10).toNat) (k := (ρ4 21).toNat) (n := (ρ 7).toNat) (by omega) hb
            refine tn_at.seg (S := tnl_m) (F' := tnl_F) hX ty_Ks tnl_rn rfl (fun o ho ρg wsg hEg zg gg fg => ?_)
            have ag : ∀ k, k < 26 → ρg k = ρd k := fun k hk => gg.2 k hk
            have alg : ∀ k, k < 22 → ρg k = ρ4 k := fun k hk => by rw [ag k (by omega), ad k (by omega), ac k (by omega), al9 k hk]
            have e25 : ρg 25 = (((ρ1 10).toNat ||| 2 ^ (ρ4 21).toNat : Nat) : Int) := by rw [ag 25 (by decide), vd]
            have e12g : ρg 12 = ρ1 12 := by rw [alg 12 (by decide), al4 12 (by decide)]
            have go : ∀ (xs : List tk_Lx), tk_rw 9 xs ρg 10 = ρg 25 + 0 → tk_rw 9 xs ρg 12 = ρg 12 + 1 → tn_at p l e (tk_rm tt_T 310) s m args below meth c (MQ below (tn_Qc tt_T D tw_cl A tnl_k ρ B ws (fun _ _ _ _ _ _ => True)) args s (tk_Tmi tt_T 310).2.2.1 (tk_Tmi tt_T 310).2.2.2.1 A) D A H tnl_F B ws 310 75 tnl_h (tk_rw 9 xs ρg) wsg := fun xs x1 x2 => by
              refine ih (12 - (ρ1 12 + 1)).toNat (by omega) _ wsg (fun k hk => by rw [tk_rw.lt hk, alg k (by omega), al4 k (by omega), hag k hk]) (by rw [x2, e12g]) ?_
              rw [x1, x2, e25, e12g, Int.add_zero, Int.toNat_natCast]
              omega
            rcases List.mem_cons.mp ho with rfl | ho
            · refine tn_at.wi (n0 := 9) (w := tnl_hw) (E0 := tnl_a6.1) (ρ0 := ρa) (xs := [(0, 15, 0, 0), (0, 25, 0, 0), (0, 29, 0, 0), (0, 12, 0, 1)]) rfl (by decide) rfl hEa (fun k hk => by rw [alg k (by omega), al4 k (by omega), hag k hk]) ⟨rfl, rfl⟩ ?_
              exact go _ rfl rfl
            · rw [List.mem_singleton] at ho
              subst ho
              refine tn_at.wi (n0 := 9) (w := tnl_hw) (E0 := tnl_a6.1) (ρ0 := ρa) (xs := [(0, 15, 0, 0), (0, 25, 0, 0), (0, 11, 0, 0), (0, 12, 0, 1)]) rfl (by decide) rfl hEa (fun k hk => by rw [alg k (by omega), al4 k (by omega), hag k hk]) ⟨rfl, rfl⟩ ?_
              exact go _ rfl rfl
          · -- drawn before
            rw [List.mem_singleton] at ho
            subst ho
            have hb : (ρ1 10).toNat.testBit (ρ4 21).toNat = true := by
              have h23 : 1 ≤ ρ9 23 := (hE9 23).1
              rw [e23] at h23
              by_cases q : (ρ1 10).toNat.testBit (ρ4 21).toNat = true
              · exact q
              · rw [if_neg q] at h23
                omega
            rw [hb] at hzs
            refine tn_at.ishr (a := (10, 0)) (b := (21, 0)) hX rfl rfl (fun ρc hEc gc vc => ?_)
            have ac : ∀ k, k < 24 → ρc k = ρ9 k := fun k hk => gc.2 k hk
            have vc : ρc 24 + 0 = (Int32.ofInt (ρ9 10 + 0) >>> (Int32.ofInt (ρ9 21 + 0) &&& 31)).toInt := vc
            rw [al9 10 (by decide), al9 21 (by decide), al4 10 (by decide), Int.add_zero, Int.add_zero, Int.add_zero] at vc
            refine tn_at.seg (S := tnl_ka) hX ty_Ks tnl_rkb rfl (fun o ho ρd wsd hEd zd gd fd => ?_)
            rw [List.mem_singleton] at ho
            subst ho
            have ad : ∀ k, k < 25 → ρd k = ρc k := fun k hk => gd.2 k hk
            refine tn_at.iand (a := (24, 0)) (b := (0, 1)) hX rfl rfl (fun ρf hEf gf vf => ?_)
            have af : ∀ k, k < 25 → ρf k = ρd k := fun k hk => gf.2 k hk
            have vf : ρf 25 + 0 = (Int32.ofInt (ρd 24 + 0) &&& Int32.ofInt (ρd 0 + 1)).toInt := vf
            rw [ad 24 (by decide), zd, Int.add_zero, Int.add_zero, vc, show (0 : Int) + 1 = 1 from rfl, tn_bit b10.1 b10.2 b21.1 b21.2, hb] at vf
            refine tn_at.seg (S := tnl_kc) hX ty_Ks tnl_rkd rfl (fun o ho ρg wsg hEg zg gg fg => ?_)
            have ag : ∀ k, k < 26 → ρg k = ρf k := fun k hk => gg.2 k hk
            have alg : ∀ k, k < 22 → ρg k = ρ4 k := fun k hk => by rw [ag k (by omega), af k (by omega), ad k (by omega), ac k (by omega), al9 k hk]
            have e25 := ag 25 (by decide)
            have vf : ρf 25 = 1 := vf
            rcases List.mem_cons.mp ho with rfl | ho
            · refine more tnl_kd0 _ 0 rfl rfl ⟨rfl, rfl⟩ ρg wsg hEg alg (by omega) ?_
              simp only [if_true] at hzs
              omega
            · rw [List.mem_singleton] at ho
              subst ho
              have : ρg 25 ≤ 0 := (hEg 25).2.1
              omega
        refine tn_at.wi (n0 := 20) (w := tnl_gw) (E0 := tnl_bb0.1) (ρ0 := ρb) (xs := [(0, 18, 0, 0), (0, 0, 0, 0)]) rfl (by decide) rfl hEb (fun k hk => rfl) ⟨rfl, rfl⟩ ?_
        refine inner _ _ wsb (fun k hk => by rw [tk_rw.lt hk]) rfl ?_ ?_
        · show ρb 0 + 0 < ρ 7
          rw [zb]
          omega
        · show ρb 18 + 0 < (tn_z (fun j => (ρ1 10).toNat.testBit j) (ρb 0 + 0).toNat (ρ 7 - (ρb 0 + 0)).toNat : Int)
          rw [zb, show ((0 : Int) + 0).toNat = 0 from rfl, show ρ 7 - ((0 : Int) + 0) = ρ 7 by omega]
          omega
      · rw [List.mem_singleton] at ho
        subst ho
        exact fin (205, tnl_b1) _ ⟨_, _, rfl, rfl⟩ rfl ρ2 ws2 ⟨by decide, fun k hk => by rw [a2 k (by omega), hag k (by omega), aa k hk]⟩
    refine tn_at.wi (n0 := 9) (w := tnl_hw) (E0 := tnl_a6.1) (ρ0 := ρa) (xs := [(0, 2, 0, 0), (0, 0, 0, 0), (0, 0, 0, 0), (0, 0, 0, 0)]) rfl (by decide) rfl hEa (fun k hk => rfl) ⟨rfl, rfl⟩ ?_
    refine head _ _ wsa (fun k hk => by rw [tk_rw.lt hk]) rfl ?_
    show (tn_z (fun j => (ρa 0 + 0).toNat.testBit j) 0 (ρ 7).toNat : Int) + (ρa 0 + 0) = ρ 7
    rw [za, show ((0 : Int) + 0).toNat = 0 from rfl, tn_z.no (fun j _ _ => Nat.zero_testBit j)]
    omega
  rcases List.mem_cons.mp ho with rfl | ho
  · exact fin (55, tnl_a0) _ ⟨_, _, rfl, rfl⟩ rfl ρa wsa ⟨by decide, aa⟩
  rcases List.mem_cons.mp ho with rfl | ho
  · exact fin (55, tnl_a1) _ ⟨_, _, rfl, rfl⟩ rfl ρa wsa ⟨by decide, aa⟩
  rcases List.mem_cons.mp ho with rfl | ho
  · exact fin (55, tnl_a2) _ ⟨_, _, rfl, rfl⟩ rfl ρa wsa ⟨by decide, aa⟩
  rcases List.mem_cons.mp ho with rfl | ho
  · exact fin (55, tnl_a3) _ ⟨_, _, rfl, rfl⟩ rfl ρa wsa ⟨by decide, aa⟩
  rcases List.mem_cons.mp ho with rfl | ho
  · exact fin (55, tnl_a4) _ ⟨_, _, rfl, rfl⟩ rfl ρa wsa ⟨by decide, aa⟩
  rcases List.mem_cons.mp ho with rfl | ho
  · exact fin (55, tnl_a5) _ ⟨_, _, rfl, rfl⟩ rfl ρa wsa ⟨by decide, aa⟩
  rcases List.mem_cons.mp ho with rfl | ho
  · exact key rfl
  rcases List.mem_cons.mp ho with rfl | ho
  · exact fin (55, tnl_a7) _ ⟨_, _, rfl, rfl⟩ rfl ρa wsa ⟨by decide, aa⟩
  · rw [List.mem_singleton] at ho
    subst ho
    exact fin (55, tnl_a8) _ ⟨_, _, rfl, rfl⟩ rfl ρa wsa ⟨by decide, aa⟩
end HF
