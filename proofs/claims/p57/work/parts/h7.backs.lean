/-! ===== backs of the reference, with words on what it leaves ===== -/
section HC
variable {l : Launch} {D : va_G} {A : Nat → Prop}
/-- rows of the sets below hi: every way on is a number of minutes -/
def tnb_G (ws : va_W) (zb hi : Int) : Prop := ∀ s j : Int, 1 ≤ s → s < hi → 0 ≤ j → tn_b s j = true → 0 ≤ tn_gi ws zb (12 * s + j).toNat ∧ tn_gi ws zb (12 * s + j).toNat ≤ 198 * s
theorem tnb_G.to {B : tk_B} {ws ws' : va_W} {zb hi : Int} {κ : Nat} {F : List (Nat × Nat × Nat)} (h : tnb_G ws zb hi) (hf : tk_fr F B ws ws') (hk : tl_kd B zb κ) (hF : F = []) : tnb_G ws' zb hi := fun s j h1 h2 h3 h4 => by
  subst hF
  rw [tn_gi.fr hf hk rfl]
  exact h s j h1 h2 h3 h4
def tnb_Z (ρ : Nat → Int) (_ : tk_B) (_ : va_W) (_ : Nat → Int) (_ : tk_A) (_ : tk_B) (ws' : va_W) (_ _ : Heap) : Prop := tnb_G ws' (ρ 6) ((2 : Int) ^ (ρ 3).toNat)
set_option maxHeartbeats 16000000 in
theorem tnb_con : ty_NCon l D A tnb_k (fun _ _ _ => True) tnb_Z := by
  refine tn_walk (k := tnb_k) (show (313 : Nat) ≠ 0 by decide) (tw_mv (y := 313) (by decide) (by decide)) (Nat.le_of_ble_eq_true rfl) ?_
  intro ρ B ws H p e s m args below meth c hE h0 _ hX hr hlocks hH hM
  have k6 : tl_kd B (ρ 6) 93 := (tl_j1 (a := 6) (i := 69) (κ := 93) (zm := (1, 0)) hE hM (by decide)).1
  have r3 : 0 ≤ ρ 3 ∧ ρ 3 ≤ 12 := ⟨(hE 3).1, (hE 3).2.1⟩
  have fin : ∀ (o : Nat × tk_S) (xs : List tk_Lx), tk_Ret tt_T 313 o → tk_wi 7 0 0 tnb_w0 (o.2.1, [], o.2.2.2.1, o.2.2.2.2.1, 0, 0) = some xs → ∀ (ρ' : Nat → Int) (ws' : va_W), tk_ag 7 ρ o.2.1.length ρ' → tnb_G ws' (ρ 6) ((2 : Int) ^ (ρ 3).toNat) → tn_at p l e (tk_rm tt_T 313) s m args below meth c (MQ below (tn_Qc tt_T D tw_cl A tnb_k ρ B ws (tnb_Z ρ B ws)) args s (tk_Tmi tt_T 313).2.2.1 (tk_Tmi tt_T 313).2.2.2.1 A) D A H tnb_F B ws 313 o.1 o.2 ρ' ws' := fun o xs hR hxs ρ' ws' hg hv =>
    tn_at.ret (k := tnb_k) (w := tnb_w0) (show (313 : Nat) ≠ 0 by decide) (tw_mv (y := 313) (by decide) (by decide)) hX hr hlocks hH hR hE hg List.mem_cons_self hxs (fun _ _ => hv)
  have head : ∀ (n : Nat) (ρ1 : Nat → Int) (ws1 : va_W), (∀ k, k < 7 → ρ1 k = ρ k) → (4096 - ρ1 7).toNat = n → tnb_G ws1 (ρ 6) (ρ1 7) → tn_at p l e (tk_rm tt_T 313) s m args below meth c (MQ below (tn_Qc tt_T D tw_cl A tnb_k ρ B ws (tnb_Z ρ B ws)) args s (tk_Tmi tt_T 313).2.2.1 (tk_Tmi tt_T 313).2.2.2.1 A) D A H tnb_F B ws 313 9 tnb_h ρ1 ws1 := by
    intro n
    induction n using Nat.strongRecOn with
    | ind n ih =>
    intro ρ1 ws1 hag hn hG
    refine tn_at.seg (S := tnb_h) hX ty_Ks tnb_rb rfl (fun o ho ρ2 ws2 hE2 z2 g2 f2 => ?_)
    rw [List.mem_singleton] at ho
    subst ho
    have a2 : ∀ k, k < 8 → ρ2 k = ρ1 k := fun k hk => g2.2 k hk
    have hG2 := hG.to f2 k6 rfl
    refine tn_at.ishl (a := (0, 1)) (b := (3, 0)) hX rfl rfl (fun ρ3 hE3 g3 v3 => ?_)
    have a3 : ∀ k, k < 8 → ρ3 k = ρ2 k := fun k hk => g3.2 k hk
    have v3 : ρ3 8 + 0 = (Int32.ofInt (ρ2 0 + 1) <<< (Int32.ofInt (ρ2 3 + 0) &&& 31)).toInt := v3
    rw [z2, a2 3 (by decide), hag 3 (by decide), show (0 : Int) + 1 = 1 from rfl, Int.add_zero, Int.add_zero, tn_shl (by omega) (by omega)] at v3
    refine tn_at.seg (S := tnb_c) hX ty_Ks tnb_rd rfl (fun o ho ρd wsd hEd zd gd fd => ?_)
    have ad : ∀ k, k < 9 → ρd k = ρ3 k := fun k hk => gd.2 k hk
    have hGd := hG2.to fd k6 rfl
    have ald : ∀ k, k < 8 → ρd k = ρ1 k := fun k hk => by rw [ad k (by omega), a3 k (by omega), a2 k hk]
    have v8 : ρd 8 = (2 : Int) ^ (ρ 3).toNat := by rw [ad 8 (by decide), v3]
    have d9 : ρd 9 = ρd 7 - ρd 8 + 0 := by
      rcases List.mem_cons.mp ho with rfl | ho
      · exact (hEd 9).2.2.2.2 rfl
      · rw [List.mem_singleton] at ho
        subst ho
        exact (hEd 9).2.2.2.2 rfl
    rcases List.mem_cons.mp ho with rfl | ho
    · have b9 : ρd 9 ≤ -1 := (hEd 9).2.1
      have b7 : 1 ≤ ρd 7 ∧ ρd 7 ≤ 4095 := ⟨(hEd 7).1, (hEd 7).2.1⟩
      have hlt : ρd 7 < (2 : Int) ^ (ρ 3).toNat := by rw [← v8]; omega
      have e7 := ald 7 (by decide)
      rw [← e7] at hGd
      have inner : ∀ (n : Nat) (ρ4 : Nat → Int) (ws4 : va_W), (∀ k, k < 10 → ρ4 k = ρd k) → (12 - ρ4 10).toNat = n → tnb_G ws4 (ρ 6) (ρd 7) → (∀ j : Int, 0 ≤ j → j < ρ4 10 → tn_b (ρd 7) j = true → 0 ≤ tn_gi ws4 (ρ 6) (12 * ρd 7 + j).toNat ∧ tn_gi ws4 (ρ 6) (12 * ρd 7 + j).toNat ≤ 198 * ρd 7) → tn_at p l e (tk_rm tt_T 313) s m args below meth c (MQ below (tn_Qc tt_T D tw_cl A tnb_k ρ B ws (tnb_Z ρ B ws)) args s (tk_Tmi tt_T 313).2.2.1 (tk_Tmi tt_T 313).2.2.2.1 A) D A H tnb_F B ws 313 18 tnb_g ρ4 ws4 := by
        intro n2
        induction n2 using Nat.strongRecOn with
        | ind n2 ih2 =>
        intro ρ4 ws4 hag4 hn4 hG4 hI4
        have more : ∀ (o : tk_S), tk_wi 10 0 0 tnb_gw o = some [(0, 10, 0, 1)] → o.2.2.2.2.1 = 0 ∧ o.2.2.2.2.2 = 0 → ∀ (ρ' : Nat → Int) (ws' : va_W), (∀ k, k < 11 → ρ' k = ρ4 k) → ρ4 10 ≤ 11 → tnb_G ws' (ρ 6) (ρd 7) → (∀ j : Int, 0 ≤ j → j < ρ4 10 + 1 → tn_b (ρd 7) j = true → 0 ≤ tn_gi ws' (ρ 6) (12 * ρd 7 + j).toNat ∧ tn_gi ws' (ρ 6) (12 * ρd 7 + j).toNat ≤ 198 * ρd 7) → tn_at p l e (tk_rm tt_T 313) s m args below meth c (MQ below (tn_Qc tt_T D tw_cl A tnb_k ρ B ws (tnb_Z ρ B ws)) args s (tk_Tmi tt_T 313).2.2.1 (tk_Tmi tt_T 313).2.2.2.1 A) D A H tnb_F B ws 313 18 o ρ' ws' := fun o hxs hcs ρ' ws' hr' hk hG' hI' => by
          refine tn_at.wi (n0 := 10) (E0 := tnb_d0.1) (ρ0 := ρd) hxs (by decide) rfl hEd (fun k hk => by rw [hr' k (by omega), hag4 k hk]) hcs ?_
          refine ih2 (12 - (ρ4 10 + 1)).toNat (by omega) _ ws' (fun k hk => by rw [tk_rw.lt hk, hr' k (by omega), hag4 k hk]) ?_ hG' (fun j j1 j2 j3 => hI' j j1 ?_ j3)
          · show (12 - (ρ' 10 + 1)).toNat = _
            rw [hr' 10 (by decide)]
          · have j2 : j < ρ' 10 + 1 := j2
            rw [hr' 10 (by decide)] at j2
            exact j2
        refine tn_at.seg (S := tnb_g) hX ty_Ks tnb_re rfl (fun o ho ρ5 ws5 hE5 z5 g5 f5 => ?_)
        have a5 : ∀ k, k < 11 → ρ5 k = ρ4 k := fun k hk => g5.2 k hk
        have hG5 := hG4.to f5 k6 rfl
        have hI5 : ∀ j : Int, 0 ≤ j → j < ρ4 10 → tn_b (ρd 7) j = true → 0 ≤ tn_gi ws5 (ρ 6) (12 * ρd 7 + j).toNat ∧ tn_gi ws5 (ρ 6) (12 * ρd 7 + j).toNat ≤ 198 * ρd 7 := fun j j1 j2 j3 => by
          rw [tn_gi.fr f5 k6 rfl]
          exact hI4 j j1 j2 j3
        have e10 := a5 10 (by decide)
        have q7 : ρ5 7 = ρd 7 := by rw [a5 7 (by decide), hag4 7 (by decide)]
        have q3 : ρ5 3 = ρ 3 := by rw [a5 3 (by decide), hag4 3 (by decide), ald 3 (by decide), hag 3 (by decide)]
        rcases List.mem_cons.mp ho with rfl | ho
        · have b10 : 0 ≤ ρ5 10 ∧ ρ5 10 ≤ 11 := ⟨(hE5 10).1, (hE5 10).2.1⟩
          rw [e10] at b10
          refine tn_at.ishr (a := (7, 0)) (b := (10, 0)) hX rfl rfl (fun ρ6 hE6 g6 v6 => ?_)
          have a6 : ∀ k, k < 12 → ρ6 k = ρ5 k := fun k hk => g6.2 k hk
          have v6 : ρ6 12 + 0 = (Int32.ofInt (ρ5 7 + 0) >>> (Int32.ofInt (ρ5 10 + 0) &&& 31)).toInt := v6
          rw [q7, e10, Int.add_zero, Int.add_zero, Int.add_zero] at v6
          refine tn_at.seg (S := tnb_f) hX ty_Ks tnb_ri rfl (fun o ho ρ7 ws7 hE7 z7 g7 f7 => ?_)
          rw [List.mem_singleton] at ho
          subst ho
          have a7 : ∀ k, k < 13 → ρ7 k = ρ6 k := fun k hk => g7.2 k hk
          refine tn_at.iand (a := (12, 0)) (b := (0, 1)) hX rfl rfl (fun ρ8 hE8 g8 v8' => ?_)
          have a8 : ∀ k, k < 13 → ρ8 k = ρ7 k := fun k hk => g8.2 k hk
          have v8' : ρ8 13 + 0 = (Int32.ofInt (ρ7 12 + 0) &&& Int32.ofInt (ρ7 0 + 1)).toInt := v8'
          rw [a7 12 (by decide), z7, Int.add_zero, Int.add_zero, v6, show (0 : Int) + 1 = 1 from rfl, tn_bit (by omega) b7.2 b10.1 b10.2] at v8'
          refine tn_at.seg (S := tnb_j) hX ty_Ks tnb_rk rfl (fun o ho ρ9 ws9 hE9 z9 g9 f9 => ?_)
          have a9 : ∀ k, k < 14 → ρ9 k = ρ8 k := fun k hk => g9.2 k hk
          have al9 : ∀ k, k < 11 → ρ9 k = ρ4 k := fun k hk => by rw [a9 k (by omega), a8 k (by omega), a7 k (by omega), a6 k (by omega), a5 k hk]
          have hG9 := (hG5.to f7 k6 rfl).to f9 k6 rfl
          have hI9 : ∀ j : Int, 0 ≤ j → j < ρ4 10 → tn_b (ρd 7) j = true → 0 ≤ tn_gi ws9 (ρ 6) (12 * ρd 7 + j).toNat ∧ tn_gi ws9 (ρ 6) (12 * ρd 7 + j).toNat ≤ 198 * ρd 7 := fun j j1 j2 j3 => by
            rw [tn_gi.fr f9 k6 rfl, tn_gi.fr f7 k6 rfl]
            exact hI5 j j1 j2 j3
          rcases List.mem_cons.mp ho with rfl | ho
          · -- it is not in the set
            have hb : tn_b (ρd 7) (ρ4 10) = false := by
              have h13 : ρ9 13 ≤ 0 := (hE9 13).2.1
              rw [a9 13 (by decide), show ρ8 13 = ρ8 13 + 0 by omega, v8'] at h13
              unfold tn_b
              by_cases q : (ρd 7).toNat.testBit (ρ4 10).toNat = true
              · rw [if_pos q] at h13
                omega
              · simpa using q
            refine more tnb_k0 rfl ⟨rfl, rfl⟩ ρ9 ws9 al9 (by omega) hG9 (fun j j1 j2 j3 => ?_)
            by_cases e : j = ρ4 10
            · rw [e, hb] at j3
              cases j3
            · exact hI9 j j1 (by omega) j3
          · rw [List.mem_singleton] at ho
            subst ho
            have hb : (ρd 7).toNat.testBit (ρ4 10).toNat = true := by
              have h13 : 1 ≤ ρ9 13 := (hE9 13).1
              rw [a9 13 (by decide), show ρ8 13 = ρ8 13 + 0 by omega, v8'] at h13
              by_cases q : (ρd 7).toNat.testBit (ρ4 10).toNat = true
              · exact q
              · rw [if_neg q] at h13
                omega
            refine tn_at.imul (a := (0, 12)) (b := (7, 0)) hX rfl rfl (fun ρa hEa ga va => ?_)
            have aa : ∀ k, k < 14 → ρa k = ρ9 k := fun k hk => ga.2 k hk
            have va : ρa 14 + 0 = (Int32.ofInt (ρ9 0 + 12) * Int32.ofInt (ρ9 7 + 0)).toInt := va
            rw [z9, al9 7 (by decide), hag4 7 (by decide), Int.add_zero, Int.add_zero, show (0 : Int) + 12 = 12 from rfl, tn_mul (by omega) b7.2] at va
            refine tn_at.seg (S := tnb_l) hX ty_Ks tnb_rm rfl (fun o ho ρb wsb hEb zb gb fb => ?_)
            rw [List.mem_singleton] at ho
            subst ho
            have ab : ∀ k, k < 15 → ρb k = ρa k := fun k hk => gb.2 k hk
            have d15 : ρb 15 = ρb 14 + ρb 10 + 0 := (hEb 15).2.2.2.1 rfl
            have alb : ∀ k, k < 11 → ρb k = ρ4 k := fun k hk => by rw [ab k (by omega), aa k (by omega), al9 k hk]
            have w15 : ρb 15 = 12 * ρd 7 + ρ4 10 := by rw [d15, ab 14 (by decide), va, alb 10 (by decide), Int.add_zero]
            refine tn_at.ishl (a := (0, 1)) (b := (10, 0)) hX rfl rfl (fun ρc hEc gc vc => ?_)
            have ac : ∀ k, k < 16 → ρc k = ρb k := fun k hk => gc.2 k hk
            have vc : ρc 16 + 0 = (Int32.ofInt (ρb 0 + 1) <<< (Int32.ofInt (ρb 10 + 0) &&& 31)).toInt := vc
            rw [zb, alb 10 (by decide), show (0 : Int) + 1 = 1 from rfl, Int.add_zero, Int.add_zero, tn_shl (by omega) (by omega)] at vc
            refine tn_at.seg (S := tnb_n) hX ty_Ks tnb_ro rfl (fun o ho ρe wse hEe ze ge fe => ?_)
            rw [List.mem_singleton] at ho
            subst ho
            have ae : ∀ k, k < 17 → ρe k = ρc k := fun k hk => ge.2 k hk
            refine tn_at.ixor (a := (16, 0)) (b := (0, -1)) hX rfl rfl (fun ρf hEf gf vf => ?_)
            have af : ∀ k, k < 17 → ρf k = ρe k := fun k hk => gf.2 k hk
            have vf : ρf 17 + 0 = (Int32.ofInt (ρe 16 + 0) ^^^ Int32.ofInt (ρe 0 + -1)).toInt := vf
            rw [ae 16 (by decide), ze, Int.add_zero, Int.add_zero, vc, show (0 : Int) + -1 = -1 from rfl] at vf
            refine tn_at.iand (a := (7, 0)) (b := (17, 0)) hX rfl rfl (fun ρg hEg gg vg => ?_)
            have ag : ∀ k, k < 18 → ρg k = ρf k := fun k hk => gg.2 k hk
            have vg : ρg 18 + 0 = (Int32.ofInt (ρf 7 + 0) &&& Int32.ofInt (ρf 17 + 0)).toInt := vg
            have alf : ∀ k, k < 11 → ρf k = ρ4 k := fun k hk => by rw [af k (by omega), ae k (by omega), ac k (by omega), alb k hk]
            rw [alf 7 (by decide), hag4 7 (by decide), Int.add_zero, Int.add_zero, Int.add_zero, vf, tn_clr.ok (by omega) b7.2 b10.1 b10.2] at vg
            have alg : ∀ k, k < 11 → ρg k = ρ4 k := fun k hk => by rw [ag k (by omega), alf k hk]
            have hcl := tn_clr.lt (r := (ρd 7).toNat) (k := (ρ4 10).toNat) (by omega) (by omega) hb
            have hGe : tnb_G wse (ρ 6) (ρd 7) := (hG9.to fb k6 rfl).to fe k6 rfl
            have w18 : ρg 18 < ρd 7 := by omega
            have h18 : 0 ≤ ρg 18 := by omega
            refine tn_at.call (k := tnf_k) (P := tnf_P) (Z := tnf_Z) (xs := tnb_xr) (as := tnb_ar) (K' := tnb_qr) (rs := [tnb_r0]) hX tnf_con rfl rfl rfl rfl rfl (fun _ _ _ => ?_) (fun w r hwr ρh wsh hEh gh fh hzh => ?_)
            · show ρg 18 + 0 < (2 : Int) ^ (ρg 3 + 0).toNat ∧ ∀ j : Int, 0 ≤ j → tn_b (ρg 18 + 0) j = true → 0 ≤ tn_gi wse (ρg 6 + 0) (12 * (ρg 18 + 0) + j).toNat ∧ tn_gi wse (ρg 6 + 0) (12 * (ρg 18 + 0) + j).toNat ≤ 198 * (ρg 18 + 0)
              rw [Int.add_zero, Int.add_zero, Int.add_zero, alg 3 (by decide), alg 6 (by decide), hag4 3 (by decide), hag4 6 (by decide), ald 3 (by decide), ald 6 (by decide), hag 3 (by decide), hag 6 (by decide)]
              refine ⟨by omega, fun j j1 j2 => hGe (ρg 18) j ?_ w18 j1 j2⟩
              by_cases q : ρg 18 = 0
              · rw [q] at j2
                unfold tn_b at j2
                simp at j2
              · omega
            rw [show List.zip tnf_k.2.2.2.2.1 [tnb_r0] = [(tnf_w0, tnb_r0)] from rfl, List.mem_singleton] at hwr
            cases hwr
            have ah : ∀ k, k < 19 → ρh k = ρg k := fun k hk => gh.2 k hk
            have alh : ∀ k, k < 11 → ρh k = ρ4 k := fun k hk => by rw [ah k (by omega), alg k hk]
            have hGh : tnb_G wsh (ρ 6) (ρd 7) := hGe.to fh k6 rfl
            have vh : 0 ≤ ρh 19 ∧ ρh 19 ≤ 198 * ρd 7 := by
              obtain ⟨ρe', _, _, _, _, q1, q2, q3⟩ := hzh
              have q1 : ρh 19 = ρe' 9 := q1 0
              have q2 : ρg 18 + 0 = 0 → ρe' 9 = 0 := q2
              have q3 : ρg 18 + 0 ≠ 0 → ∃ j : Int, 0 ≤ j ∧ j < ρg 3 + 0 ∧ tn_b (ρg 18 + 0) j = true ∧ ρe' 9 = tn_mn wse (ρg 4 + 0) (ρg 5 + 0) (ρg 10 + 0) j + tn_gi wse (ρg 6 + 0) (12 * (ρg 18 + 0) + j).toNat ∧ tn_mn wse (ρg 4 + 0) (ρg 5 + 0) (ρg 10 + 0) j ≤ 198 := q3
              rw [q1]
              by_cases q : ρg 18 + 0 = 0
              · rw [q2 q]
                omega
              · obtain ⟨j, j1, j2, j3, j4, j5⟩ := q3 q
                rw [Int.add_zero] at j3 q
                rw [show ρg 18 + 0 = ρg 18 by omega, show ρg 6 + 0 = ρ 6 by rw [alg 6 (by decide), hag4 6 (by decide), ald 6 (by decide), hag 6 (by decide), Int.add_zero]] at j4
                obtain ⟨c1, c2⟩ := hGe (ρg 18) j (by omega) w18 j1 j3
                have c3 := tn_mn.b (ws := wse) (zx := ρg 4 + 0) (zy := ρg 5 + 0) (a := ρg 10 + 0) (b := j)
                rw [j4]
                omega
            refine tn_at.iast (t := 103) (w := (19, 0)) (i := (15, 0)) (a := (6, 0)) hX rfl rfl (fun wsi hi1 hi2 => ?_)
            have e15 : ρh 15 = 12 * ρd 7 + ρ4 10 := by rw [ah 15 (by decide), ag 15 (by decide), af 15 (by decide), ae 15 (by decide), ac 15 (by decide), w15]
            have e6 : ρh 6 = ρ 6 := by rw [alh 6 (by decide), hag4 6 (by decide), ald 6 (by decide), hag 6 (by decide)]
            have hi1 : tn_gi wsi (ρh 6 + 0) (ρh 15 + 0).toNat = ρh 19 + 0 := hi1
            have hi2 : ∀ (z : Int) (n : Nat), 1 ≤ z → (z ≠ ρh 6 + 0 ∨ (n : Int) ≠ ρh 15 + 0) → tl_pl wsi z n = tl_pl wsh z n := hi2
            rw [e6, e15, Int.add_zero, Int.add_zero, Int.add_zero] at hi1
            have hp6 : 1 ≤ ρ 6 := k6.pos
            have hi3 : ∀ n : Nat, (n : Int) ≠ 12 * ρd 7 + ρ4 10 → tn_gi wsi (ρ 6) n = tn_gi wsh (ρ 6) n := fun n hn => by
              unfold tn_gi
              rw [hi2 (ρ 6) n hp6 (Or.inr (by rw [e15, Int.add_zero]; exact hn))]
            refine tn_at.seg (S := tnb_s) hX ty_Ks tnb_rt rfl (fun o ho ρj wsj hEj zj gj fj => ?_)
            rw [List.mem_singleton] at ho
            subst ho
            have aj : ∀ k, k < 20 → ρj k = ρh k := fun k hk => gj.2 k hk
            refine more tnb_t0 rfl ⟨rfl, rfl⟩ ρj wsj (fun k hk => by rw [aj k (by omega), alh k hk]) (by omega) (fun s' j h1 h2 h3 h4 => ?_) (fun j j1 j2 j3 => ?_)
            · have h5 := tn_b.lt (u := s') (n := ρ 3) (j := j) (by omega) r3.1 r3.2 (by omega) h3 h4
              rw [tn_gi.fr fj k6 rfl, hi3 _ (by omega)]
              exact hGh s' j h1 h2 h3 h4
            · rw [tn_gi.fr fj k6 rfl]
              by_cases e : j = ρ4 10
              · rw [e, hi1]
                exact vh
              · rw [hi3 _ (by omega), tn_gi.fr fh k6 rfl, tn_gi.fr fe k6 rfl, tn_gi.fr fb k6 rfl]
                exact hI9 j j1 (by omega) j3
        · rw [List.mem_singleton] at ho
          subst ho
          have d11 : ρ5 11 = ρ5 10 - ρ5 3 + 0 := (hE5 11).2.2.2.2 rfl
          have b11 : 0 ≤ ρ5 11 := (hE5 11).1
          refine tn_at.wi (n0 := 7) (w := tnb_hw) (E0 := tk_E0 tnb_k) (ρ0 := ρ) (xs := [(0, 7, 0, 1)]) rfl (by decide) rfl hE (fun k hk => by rw [a5 k (by omega), hag4 k (by omega), ald k (by omega), hag k hk]) ⟨rfl, rfl⟩ ?_
          refine ih (4096 - (ρd 7 + 1)).toNat (by omega) _ ws5 (fun k hk => by rw [tk_rw.lt hk, a5 k (by omega), hag4 k (by omega), ald k (by omega), hag k hk]) ?_ (fun s' j h1 h2 h3 h4 => ?_)
          · show (4096 - (ρ5 7 + 1)).toNat = _
            rw [q7]
          · have h2 : s' < ρ5 7 + 1 := h2
            by_cases es : s' = ρd 7
            · rw [es] at h4 ⊢
              exact hI5 j h3 (by have := tn_b.lt (u := ρd 7) (n := ρ 3) (j := j) (by omega) r3.1 r3.2 hlt h3 h4; omega) h4
            · exact hG5 s' j h1 (by omega) h3 h4
      refine tn_at.wi (n0 := 10) (w := tnb_gw) (E0 := tnb_d0.1) (ρ0 := ρd) (xs := [(0, 0, 0, 0)]) rfl (by decide) rfl hEd (fun k hk => rfl) ⟨rfl, rfl⟩ ?_
      refine inner _ _ wsd (fun k hk => by rw [tk_rw.lt hk]) rfl hGd (fun j j1 j2 j3 => ?_)
      have j2 : j < ρd 0 + 0 := j2
      rw [zd] at j2
      omega
    · rw [List.mem_singleton] at ho
      subst ho
      have b9 : 0 ≤ ρd 9 := (hEd 9).1
      refine fin (69, tnb_d1) _ ⟨_, _, rfl, rfl⟩ rfl ρd wsd ⟨by decide, fun k hk => by rw [ald k (by omega), hag k hk]⟩ (fun s' j h1 h2 h3 h4 => hGd s' j h1 ?_ h3 h4)
      rw [← v8] at h2
      have := ald 7 (by decide)
      omega
  refine tn_at.seg (S := tnb_S) hX ty_Ks tnb_ra rfl (fun o ho ρ1 ws1 hE1 z1 g1 f1 => ?_)
  rw [List.mem_singleton] at ho
  subst ho
  have a1 : ∀ k, k < 7 → ρ1 k = ρ k := fun k hk => g1.2 k hk
  refine tn_at.wi (n0 := 7) (w := tnb_hw) (E0 := tk_E0 tnb_k) (ρ0 := ρ) (xs := [(0, 0, 0, 1)]) rfl (by decide) rfl hE a1 ⟨rfl, rfl⟩ ?_
  refine head _ _ ws1 (fun k hk => by rw [tk_rw.lt hk, a1 k hk]) rfl (fun s' j h1 h2 _ _ => ?_)
  have h2 : s' < ρ1 0 + 1 := h2
  rw [z1] at h2
  omega
end HC
