/-! ===== minutes, isSet, sizeOf of the reference, with words on what they answer ===== -/
section HA
variable {l : Launch} {D : va_G} {A : Nat → Prop}
def tn_ab (u : Int) : Int := if u < 0 then -u else u
/-- minutes from a to b -/
def tn_mn (ws : va_W) (zx zy a b : Int) : Int := tn_ab (tn_gi ws zx a.toNat - tn_gi ws zx b.toNat) + tn_ab (tn_gi ws zy a.toNat - tn_gi ws zy b.toNat)
def tnm_Z (ρ : Nat → Int) (_ : tk_B) (ws : va_W) (ρe : Nat → Int) (_ : tk_A) (_ : tk_B) (_ : va_W) (_ _ : Heap) : Prop := ρe 6 = tn_mn ws (ρ 4) (ρ 5) (ρ 2) (ρ 3)
set_option maxHeartbeats 8000000 in
theorem tnm_con : ty_NCon l D A tnm_k (fun _ _ _ => True) tnm_Z := by
  refine tn_walk (k := tnm_k) (show (194 : Nat) ≠ 0 by decide) (tw_mv (y := 194) (by decide) (by decide)) (Nat.le_of_ble_eq_true rfl) ?_
  intro ρ B ws H p e s m args below meth c hE h0 _ hX hr hlocks hH hM
  have k4 : tl_kd B (ρ 4) 57 := (tl_j1 (a := 4) (i := 24) (κ := 57) (zm := (1, 0)) hE hM (by decide)).1
  have k5 : tl_kd B (ρ 5) 58 := (tl_j1 (a := 5) (i := 25) (κ := 58) (zm := (1, 0)) hE hM (by decide)).1
  have fin : ∀ (o : Nat × tk_S) (xs : List tk_Lx), tk_Ret tt_T 194 o → tk_wi 6 0 0 tnm_w0 (o.2.1, [], o.2.2.2.1, o.2.2.2.2.1, 0, 0) = some xs → ∀ (ρ' : Nat → Int) (ws' : va_W), tk_ag 6 ρ o.2.1.length ρ' → tk_rw 6 xs ρ' 6 = tn_mn ws (ρ 4) (ρ 5) (ρ 2) (ρ 3) → tn_at p l e (tk_rm tt_T 194) s m args below meth c (MQ below (tn_Qc tt_T D tw_cl A tnm_k ρ B ws (tnm_Z ρ B ws)) args s (tk_Tmi tt_T 194).2.2.1 (tk_Tmi tt_T 194).2.2.2.1 A) D A H tnm_F B ws 194 o.1 o.2 ρ' ws' := fun o xs hR hxs ρ' ws' hg hv =>
    tn_at.ret (k := tnm_k) (w := tnm_w0) (show (194 : Nat) ≠ 0 by decide) (tw_mv (y := 194) (by decide) (by decide)) hX hr hlocks hH hR hE hg List.mem_cons_self hxs (fun _ _ => hv)
  refine tn_at.seg (S := tnm_S) hX ty_Ks tnm_ra rfl (fun o ho ρ1 ws1 hE1 z1 g1 f1 => ?_)
  rw [List.mem_singleton] at ho
  subst ho
  have a1 : ∀ k, k < 6 → ρ1 k = ρ k := fun k hk => g1.2 k hk
  refine tn_at.iald (t := 67) (a := (4, 0)) (i := (2, 0)) (lo := 0) (hi := 99) hX rfl rfl rfl ⟨rfl, rfl⟩ rfl rfl (fun ρ2 hE2 g2 v2 => ?_)
  have a2 : ∀ k, k < 6 → ρ2 k = ρ1 k := fun k hk => g2.2 k hk
  have v2 : ρ2 6 = tn_gi ws1 (ρ1 4 + 0) (ρ1 2 + 0).toNat := v2
  rw [Int.add_zero, Int.add_zero, a1 4 (by decide), a1 2 (by decide), tn_gi.fr f1 k4 rfl] at v2
  refine tn_at.seg (S := tnm_b) hX ty_Ks tnm_rc rfl (fun o ho ρ3 ws3 hE3 z3 g3 f3 => ?_)
  rw [List.mem_singleton] at ho
  subst ho
  have a3 : ∀ k, k < 7 → ρ3 k = ρ2 k := fun k hk => g3.2 k hk
  refine tn_at.iald (t := 67) (a := (4, 0)) (i := (3, 0)) (lo := 0) (hi := 99) hX rfl rfl rfl ⟨rfl, rfl⟩ rfl rfl (fun ρ4 hE4 g4 v4 => ?_)
  have a4 : ∀ k, k < 7 → ρ4 k = ρ3 k := fun k hk => g4.2 k hk
  have v4 : ρ4 7 = tn_gi ws3 (ρ3 4 + 0) (ρ3 3 + 0).toNat := v4
  rw [Int.add_zero, Int.add_zero, a3 4 (by decide), a3 3 (by decide), a2 4 (by decide), a2 3 (by decide), a1 4 (by decide), a1 3 (by decide), tn_gi.fr f3 k4 rfl, tn_gi.fr f1 k4 rfl] at v4
  refine tn_at.seg (S := tnm_d) hX ty_Ks tnm_re rfl (fun o ho ρ5 ws5 hE5 z5 g5 f5 => ?_)
  rw [List.mem_singleton] at ho
  subst ho
  have a5 : ∀ k, k < 8 → ρ5 k = ρ4 k := fun k hk => g5.2 k hk
  refine tn_at.iald (t := 68) (a := (5, 0)) (i := (2, 0)) (lo := 0) (hi := 99) hX rfl rfl rfl ⟨rfl, rfl⟩ rfl rfl (fun ρ6 hE6 g6 v6 => ?_)
  have a6 : ∀ k, k < 9 → ρ6 k = ρ5 k := fun k hk => g6.2 k hk
  have v6 : ρ6 9 = tn_gi ws5 (ρ5 5 + 0) (ρ5 2 + 0).toNat := v6
  rw [Int.add_zero, Int.add_zero, a5 5 (by decide), a5 2 (by decide), a4 5 (by decide), a4 2 (by decide), a3 5 (by decide), a3 2 (by decide), a2 5 (by decide), a2 2 (by decide), a1 5 (by decide), a1 2 (by decide), tn_gi.fr f5 k5 rfl, tn_gi.fr f3 k5 rfl, tn_gi.fr f1 k5 rfl] at v6
  refine tn_at.seg (S := tnm_f) hX ty_Ks tnm_rg rfl (fun o ho ρ7 ws7 hE7 z7 g7 f7 => ?_)
  rw [List.mem_singleton] at ho
  subst ho
  have a7 : ∀ k, k < 10 → ρ7 k = ρ6 k := fun k hk => g7.2 k hk
  refine tn_at.iald (t := 68) (a := (5, 0)) (i := (3, 0)) (lo := 0) (hi := 99) hX rfl rfl rfl ⟨rfl, rfl⟩ rfl rfl (fun ρ8 hE8 g8 v8 => ?_)
  have a8 : ∀ k, k < 10 → ρ8 k = ρ7 k := fun k hk => g8.2 k hk
  have v8 : ρ8 10 = tn_gi ws7 (ρ7 5 + 0) (ρ7 3 + 0).toNat := v8
  rw [Int.add_zero, Int.add_zero, a7 5 (by decide), a7 3 (by decide), a6 5 (by decide), a6 3 (by decide), a5 5 (by decide), a5 3 (by decide), a4 5 (by decide), a4 3 (by decide), a3 5 (by decide), a3 3 (by decide), a2 5 (by decide), a2 3 (by decide), a1 5 (by decide), a1 3 (by decide), tn_gi.fr f7 k5 rfl, tn_gi.fr f5 k5 rfl, tn_gi.fr f3 k5 rfl, tn_gi.fr f1 k5 rfl] at v8
  have ag : ∀ (n : Nat) (ρ' : Nat → Int), (∀ k, k < 11 → ρ' k = ρ8 k) → 6 ≤ n → tk_ag 6 ρ n ρ' := fun n ρ' h hn => ⟨hn, fun k hk => by rw [h k (by omega), a8 k (by omega), a7 k (by omega), a6 k (by omega), a5 k (by omega), a4 k (by omega), a3 k (by omega), a2 k (by omega), a1 k (by omega)]⟩
  have w6 : ρ8 6 = tn_gi ws (ρ 4) (ρ 2).toNat := by rw [a8 6 (by decide), a7 6 (by decide), a6 6 (by decide), a5 6 (by decide), a4 6 (by decide), a3 6 (by decide), v2]
  have w7 : ρ8 7 = tn_gi ws (ρ 4) (ρ 3).toNat := by rw [a8 7 (by decide), a7 7 (by decide), a6 7 (by decide), a5 7 (by decide), v4]
  have w9 : ρ8 9 = tn_gi ws (ρ 5) (ρ 2).toNat := by rw [a8 9 (by decide), a7 9 (by decide), v6]
  have mn : ∀ z : Int, (∀ q : Int, q = tn_ab (ρ8 6 - ρ8 7) + tn_ab (ρ8 9 - ρ8 10) → z = q) → z = tn_mn ws (ρ 4) (ρ 5) (ρ 2) (ρ 3) := fun z h => by
    rw [w6, w7, w9, v8] at h
    exact h _ rfl
  refine tn_at.seg (S := tnm_h) hX ty_Ks tnm_ri rfl (fun o ho ρ9 ws9 hE9 z9 g9 f9 => ?_)
  have a9 : ∀ k, k < 11 → ρ9 k = ρ8 k := fun k hk => g9.2 k hk
  rcases List.mem_cons.mp ho with rfl | ho
  · have d8 : ρ9 8 = ρ9 6 - ρ9 7 + 0 := (hE9 8).2.2.2.2 rfl
    have b8 : ρ9 8 ≤ -1 := (hE9 8).2.1
    have c8 : -99 ≤ ρ9 8 := (hE9 8).1
    refine tn_at.ineg (a := (8, 0)) hX rfl rfl (fun ρa hEa ga va => ?_)
    have aa : ∀ k, k < 12 → ρa k = ρ9 k := fun k hk => ga.2 k hk
    have va : ρa 12 + 0 = (-(Int32.ofInt (ρ9 8 + 0))).toInt := va
    rw [tn_neg (by omega) (by omega)] at va
    refine tn_at.seg (S := tnm_j) hX ty_Ks tnm_rk rfl (fun o ho ρb wsb hEb zb gb fb => ?_)
    have ab : ∀ k, k < 13 → ρb k = ρa k := fun k hk => gb.2 k hk
    rcases List.mem_cons.mp ho with rfl | ho
    · have d11 : ρb 11 = ρb 9 - ρb 10 + 0 := (hEb 11).2.2.2.2 rfl
      have b11 : ρb 11 ≤ -1 := (hEb 11).2.1
      have c11 : -99 ≤ ρb 11 := (hEb 11).1
      refine tn_at.ineg (a := (11, 0)) hX rfl rfl (fun ρc hEc gc vc => ?_)
      have ac : ∀ k, k < 13 → ρc k = ρb k := fun k hk => gc.2 k hk
      have vc : ρc 13 + 0 = (-(Int32.ofInt (ρb 11 + 0))).toInt := vc
      rw [tn_neg (by omega) (by omega)] at vc
      refine tn_at.seg (S := tnm_l) hX ty_Ks tnm_rm rfl (fun o ho ρd wsd hEd zd gd fd => ?_)
      rw [List.mem_singleton] at ho
      subst ho
      have ad : ∀ k, k < 14 → ρd k = ρc k := fun k hk => gd.2 k hk
      have dd : ρd 14 = ρd 12 + ρd 13 + 0 := (hEd 14).2.2.2.1 rfl
      have al : ∀ k, k < 11 → ρd k = ρ8 k := fun k hk => by rw [ad k (by omega), ac k (by omega), ab k (by omega), aa k (by omega), a9 k hk]
      refine fin (53, tnm_m0) _ ⟨_, _, rfl, rfl⟩ rfl ρd wsd (ag _ _ al (by decide)) (mn _ (fun q hq => ?_))
      show ρd 14 + 0 = q
      have e1 := al 6 (by decide)
      have e2 := al 7 (by decide)
      have e3 := al 9 (by decide)
      have e4 := al 10 (by decide)
      have e5 := ad 12 (by decide)
      have e6 := ad 13 (by decide)
      have e7 := ac 12 (by decide)
      have e8 := ab 12 (by decide)
      have e9 := ab 9 (by decide)
      have e10 := ab 10 (by decide)
      have e11 := aa 9 (by decide)
      have e12 := aa 10 (by decide)
      have e13 := a9 9 (by decide)
      have e14 := a9 10 (by decide)
      have e15 := a9 6 (by decide)
      have e16 := a9 7 (by decide)
      have e17 := aa 8 (by decide)
      rw [hq]
      unfold tn_ab
      rw [if_pos (by omega), if_pos (by omega)]
      omega
    · rw [List.mem_singleton] at ho
      subst ho
      have d11 : ρb 11 = ρb 9 - ρb 10 + 0 := (hEb 11).2.2.2.2 rfl
      have b11 : 0 ≤ ρb 11 := (hEb 11).1
      have dd : ρb 13 = ρb 12 + ρb 11 + 0 := (hEb 13).2.2.2.1 rfl
      have al : ∀ k, k < 11 → ρb k = ρ8 k := fun k hk => by rw [ab k (by omega), aa k (by omega), a9 k hk]
      refine fin (53, tnm_k1) _ ⟨_, _, rfl, rfl⟩ rfl ρb wsb (ag _ _ al (by decide)) (mn _ (fun q hq => ?_))
      show ρb 13 + 0 = q
      have e3 := al 9 (by decide)
      have e4 := al 10 (by decide)
      have e8 := ab 12 (by decide)
      have e15 := a9 6 (by decide)
      have e16 := a9 7 (by decide)
      rw [hq]
      unfold tn_ab
      rw [if_pos (by omega), if_neg (by omega)]
      omega
  · rw [List.mem_singleton] at ho
    subst ho
    have d8 : ρ9 8 = ρ9 6 - ρ9 7 + 0 := (hE9 8).2.2.2.2 rfl
    have b8 : 0 ≤ ρ9 8 := (hE9 8).1
    refine tn_at.seg (S := tnm_i1) hX ty_Ks tnm_rn rfl (fun o ho ρb wsb hEb zb gb fb => ?_)
    have ab : ∀ k, k < 12 → ρb k = ρ9 k := fun k hk => gb.2 k hk
    rcases List.mem_cons.mp ho with rfl | ho
    · have d11 : ρb 11 = ρb 9 - ρb 10 + 0 := (hEb 11).2.2.2.2 rfl
      have b11 : ρb 11 ≤ -1 := (hEb 11).2.1
      have c11 : -99 ≤ ρb 11 := (hEb 11).1
      refine tn_at.ineg (a := (11, 0)) hX rfl rfl (fun ρc hEc gc vc => ?_)
      have ac : ∀ k, k < 12 → ρc k = ρb k := fun k hk => gc.2 k hk
      have vc : ρc 12 + 0 = (-(Int32.ofInt (ρb 11 + 0))).toInt := vc
      rw [tn_neg (by omega) (by omega)] at vc
      refine tn_at.seg (S := tnm_o) hX ty_Ks tnm_rp rfl (fun o ho ρd wsd hEd zd gd fd => ?_)
      rw [List.mem_singleton] at ho
      subst ho
      have ad : ∀ k, k < 13 → ρd k = ρc k := fun k hk => gd.2 k hk
      have dd : ρd 13 = ρd 8 + ρd 12 + 0 := (hEd 13).2.2.2.1 rfl
      have al : ∀ k, k < 11 → ρd k = ρ8 k := fun k hk => by rw [ad k (by omega), ac k (by omega), ab k (by omega), a9 k hk]
      refine fin (53, tnm_p0) _ ⟨_, _, rfl, rfl⟩ rfl ρd wsd (ag _ _ al (by decide)) (mn _ (fun q hq => ?_))
      show ρd 13 + 0 = q
      have e1 := al 8 (by decide)
      have e2 := a9 8 (by decide)
      have e3 := ab 9 (by decide)
      have e4 := ab 10 (by decide)
      have e5 := ad 12 (by decide)
      have e13 := a9 9 (by decide)
      have e14 := a9 10 (by decide)
      have e15 := a9 6 (by decide)
      have e16 := a9 7 (by decide)
      rw [hq]
      unfold tn_ab
      rw [if_neg (by omega), if_pos (by omega)]
      omega
    · rw [List.mem_singleton] at ho
      subst ho
      have d11 : ρb 11 = ρb 9 - ρb 10 + 0 := (hEb 11).2.2.2.2 rfl
      have b11 : 0 ≤ ρb 11 := (hEb 11).1
      have dd : ρb 12 = ρb 8 + ρb 11 + 0 := (hEb 12).2.2.2.1 rfl
      have al : ∀ k, k < 11 → ρb k = ρ8 k := fun k hk => by rw [ab k (by omega), a9 k hk]
      refine fin (53, tnm_n1) _ ⟨_, _, rfl, rfl⟩ rfl ρb wsb (ag _ _ al (by decide)) (mn _ (fun q hq => ?_))
      show ρb 12 + 0 = q
      have e1 := al 8 (by decide)
      have e2 := a9 8 (by decide)
      have e3 := ab 9 (by decide)
      have e4 := ab 10 (by decide)
      have e13 := a9 9 (by decide)
      have e14 := a9 10 (by decide)
      have e15 := a9 6 (by decide)
      have e16 := a9 7 (by decide)
      rw [hq]
      unfold tn_ab
      rw [if_neg (by omega), if_neg (by omega)]
      omega
theorem tn_mn.b {ws : va_W} {zx zy a b : Int} : 0 ≤ tn_mn ws zx zy a b := by
  unfold tn_mn tn_ab
  split <;> split <;> omega
/-- a set of METERS: it answers 1 for no other -/
def tns_Z (ρ : Nat → Int) (_ : tk_B) (_ : va_W) (ρe : Nat → Int) (_ : tk_A) (_ : tk_B) (_ : va_W) (_ _ : Heap) : Prop := ρe 5 = 0 ∨ (1 ≤ ρ 4 ∧ 0 ≤ ρ 2 ∧ ρ 2 < (2 : Int) ^ (ρ 4).toNat)
set_option maxHeartbeats 8000000 in
theorem tns_con : ty_NCon l D A tns_k (fun _ _ _ => True) tns_Z := by
  refine tn_walk (k := tns_k) (show (178 : Nat) ≠ 0 by decide) (tw_mv (y := 178) (by decide) (by decide)) (Nat.le_of_ble_eq_true rfl) ?_
  intro ρ B ws H p e s m args below meth c hE h0 _ hX hr hlocks hH hM
  have fin : ∀ (o : Nat × tk_S) (xs : List tk_Lx), tk_Ret tt_T 178 o → tk_wi 5 0 0 tns_w0 (o.2.1, [], o.2.2.2.1, o.2.2.2.2.1, 0, 0) = some xs → ∀ (ρ' : Nat → Int) (ws' : va_W), tk_ag 5 ρ o.2.1.length ρ' → (tk_rw 5 xs ρ' 5 = 0 ∨ (1 ≤ ρ 4 ∧ 0 ≤ ρ 2 ∧ ρ 2 < (2 : Int) ^ (ρ 4).toNat)) → tn_at p l e (tk_rm tt_T 178) s m args below meth c (MQ below (tn_Qc tt_T D tw_cl A tns_k ρ B ws (tns_Z ρ B ws)) args s (tk_Tmi tt_T 178).2.2.1 (tk_Tmi tt_T 178).2.2.2.1 A) D A H tns_F B ws 178 o.1 o.2 ρ' ws' := fun o xs hR hxs ρ' ws' hg hv =>
    tn_at.ret (k := tns_k) (w := tns_w0) (show (178 : Nat) ≠ 0 by decide) (tw_mv (y := 178) (by decide) (by decide)) hX hr hlocks hH hR hE hg List.mem_cons_self hxs (fun _ _ => hv)
  refine tn_at.seg (S := tns_S) hX ty_Ks tns_ra rfl (fun o ho ρ1 ws1 hE1 z1 g1 f1 => ?_)
  have a1 : ∀ k, k < 5 → ρ1 k = ρ k := fun k hk => g1.2 k hk
  rcases List.mem_cons.mp ho with rfl | ho
  · have b4 : 1 ≤ ρ1 4 := (hE1 4).1
    have c4 : ρ1 4 ≤ 12 := (hE1 4).2.1
    refine tn_at.ishl (a := (0, 1)) (b := (4, 0)) hX rfl rfl (fun ρ2 hE2 g2 v2 => ?_)
    have a2 : ∀ k, k < 5 → ρ2 k = ρ1 k := fun k hk => g2.2 k hk
    have v2 : ρ2 5 + 0 = (Int32.ofInt (ρ1 0 + 1) <<< (Int32.ofInt (ρ1 4 + 0) &&& 31)).toInt := v2
    rw [z1, show (0 : Int) + 1 = 1 from rfl, Int.add_zero, Int.add_zero, tn_shl (by omega) (by omega)] at v2
    refine tn_at.seg (S := tns_b) hX ty_Ks tns_rc rfl (fun o ho ρ3 ws3 hE3 z3 g3 f3 => ?_)
    have a3 : ∀ k, k < 6 → ρ3 k = ρ2 k := fun k hk => g3.2 k hk
    have ag : ∀ n, 5 ≤ n → tk_ag 5 ρ n ρ3 := fun n hn => ⟨hn, fun k hk => by rw [a3 k (by omega), a2 k hk, a1 k hk]⟩
    rcases List.mem_cons.mp ho with rfl | ho
    · exact fin (34, tns_c0) _ ⟨_, _, rfl, rfl⟩ rfl ρ3 ws3 (ag _ (by decide)) (Or.inl (show ρ3 0 + 0 = 0 by rw [z3]; rfl))
    rcases List.mem_cons.mp ho with rfl | ho
    · exact fin (34, tns_c1) _ ⟨_, _, rfl, rfl⟩ rfl ρ3 ws3 (ag _ (by decide)) (Or.inl (show ρ3 0 + 0 = 0 by rw [z3]; rfl))
    · rw [List.mem_singleton] at ho
      subst ho
      have d6 : ρ3 6 = ρ3 2 - ρ3 5 + 0 := (hE3 6).2.2.2.2 rfl
      have b6 : ρ3 6 ≤ -1 := (hE3 6).2.1
      have b2 : 0 ≤ ρ3 2 := (hE3 2).1
      refine fin (34, tns_c2) _ ⟨_, _, rfl, rfl⟩ rfl ρ3 ws3 (ag _ (by decide)) (Or.inr ?_)
      rw [a1 4 (by decide)] at v2
      have e1 := a3 5 (by decide)
      have e2 := a3 2 (by decide)
      have e3 := a2 2 (by decide)
      have e4 := a1 2 (by decide)
      have e5 := a1 4 (by decide)
      refine ⟨by omega, by omega, ?_⟩
      rw [← v2]
      omega
  · rw [List.mem_singleton] at ho
    subst ho
    exact fin (34, tns_a1) _ ⟨_, _, rfl, rfl⟩ rfl ρ1 ws1 ⟨by decide, a1⟩ (Or.inl (show ρ1 0 + 0 = 0 by rw [z1]; rfl))
/-- how many are in a set -/
def tn_cnt (r : Nat) : Nat := 12 - tn_z (fun j => r.testBit j) 0 12
def tnz_Z (ρ : Nat → Int) (_ : tk_B) (_ : va_W) (ρe : Nat → Int) (_ : tk_A) (_ : tk_B) (_ : va_W) (_ _ : Heap) : Prop := ρe 2 = (tn_cnt (ρ 1).toNat : Int)
set_option maxHeartbeats 8000000 in
theorem tnz_con : ty_NCon l D A tnz_k (fun _ _ _ => True) tnz_Z := by
  refine tn_walk (k := tnz_k) (show (221 : Nat) ≠ 0 by decide) (tw_mv (y := 221) (by decide) (by decide)) (Nat.le_of_ble_eq_true rfl) ?_
  intro ρ B ws H p e s m args below meth c hE h0 _ hX hr hlocks hH hM
  have fin : ∀ (o : Nat × tk_S) (xs : List tk_Lx), tk_Ret tt_T 221 o → tk_wi 2 0 0 tnz_w0 (o.2.1, [], o.2.2.2.1, o.2.2.2.2.1, 0, 0) = some xs → ∀ (ρ' : Nat → Int) (ws' : va_W), tk_ag 2 ρ o.2.1.length ρ' → tk_rw 2 xs ρ' 2 = (tn_cnt (ρ 1).toNat : Int) → tn_at p l e (tk_rm tt_T 221) s m args below meth c (MQ below (tn_Qc tt_T D tw_cl A tnz_k ρ B ws (tnz_Z ρ B ws)) args s (tk_Tmi tt_T 221).2.2.1 (tk_Tmi tt_T 221).2.2.2.1 A) D A H tnz_F B ws 221 o.1 o.2 ρ' ws' := fun o xs hR hxs ρ' ws' hg hv =>
    tn_at.ret (k := tnz_k) (w := tnz_w0) (show (221 : Nat) ≠ 0 by decide) (tw_mv (y := 221) (by decide) (by decide)) hX hr hlocks hH hR hE hg List.mem_cons_self hxs (fun _ _ => hv)
  have head : ∀ (n : Nat) (ρ1 : Nat → Int) (ws1 : va_W), (∀ k, k < 2 → ρ1 k = ρ k) → (ρ1 3).toNat ≤ n → ρ1 2 + (tn_z (fun j => (ρ 1).toNat.testBit j) 0 12 : Int) = (tn_z (fun j => (ρ1 3).toNat.testBit j) 0 12 : Int) → tn_at p l e (tk_rm tt_T 221) s m args below meth c (MQ below (tn_Qc tt_T D tw_cl A tnz_k ρ B ws (tnz_Z ρ B ws)) args s (tk_Tmi tt_T 221).2.2.1 (tk_Tmi tt_T 221).2.2.2.1 A) D A H tnz_F B ws 221 4 tnz_h ρ1 ws1 := by
    intro n
    induction n with
    | zero =>
      intro ρ1 ws1 hag hn hI
      refine tn_at.seg (S := tnz_h) hX ty_Ks tnz_rb rfl (fun o ho ρ2 ws2 hE2 z2 g2 f2 => ?_)
      have a2 : ∀ k, k < 4 → ρ2 k = ρ1 k := fun k hk => g2.2 k hk
      rcases List.mem_cons.mp ho with rfl | ho
      · have b3 : 1 ≤ ρ2 3 := (hE2 3).1
        have := a2 3 (by decide)
        omega
      · rw [List.mem_singleton] at ho
        subst ho
        have b3 : 0 ≤ ρ2 3 := (hE2 3).1
        refine fin (21, tnz_b1) _ ⟨_, _, rfl, rfl⟩ rfl ρ2 ws2 ⟨by decide, fun k hk => by rw [a2 k (by omega), hag k hk]⟩ ?_
        show ρ2 2 + 0 = _
        have e3 := a2 3 (by decide)
        have e2 := a2 2 (by decide)
        rw [show (ρ1 3).toNat = 0 by omega, tn_z.no (fun j _ _ => Nat.zero_testBit j)] at hI
        have hz := tn_z.le (f := fun j => (ρ 1).toNat.testBit j) (n := 12) (m := 0)
        unfold tn_cnt
        omega
    | succ n ih =>
      intro ρ1 ws1 hag hn hI
      refine tn_at.seg (S := tnz_h) hX ty_Ks tnz_rb rfl (fun o ho ρ2 ws2 hE2 z2 g2 f2 => ?_)
      have a2 : ∀ k, k < 4 → ρ2 k = ρ1 k := fun k hk => g2.2 k hk
      have e3 := a2 3 (by decide)
      have e2 := a2 2 (by decide)
      rcases List.mem_cons.mp ho with rfl | ho
      · have b3 : 1 ≤ ρ2 3 := (hE2 3).1
        have c3 : ρ2 3 ≤ 4095 := (hE2 3).2.1
        refine tn_at.iand (a := (3, 0)) (b := (3, -1)) hX rfl rfl (fun ρ3 hE3 g3 v3 => ?_)
        have a3 : ∀ k, k < 4 → ρ3 k = ρ2 k := fun k hk => g3.2 k hk
        have v3 : ρ3 4 + 0 = (Int32.ofInt (ρ2 3 + 0) &&& Int32.ofInt (ρ2 3 + -1)).toInt := v3
        rw [tn_andI (by omega) (by omega) (by omega) (by omega), Int.add_zero, Int.add_zero] at v3
        refine tn_at.seg (S := tnz_c) hX ty_Ks tnz_rd rfl (fun o ho ρ4 ws4 hE4 z4 g4 f4 => ?_)
        rw [List.mem_singleton] at ho
        subst ho
        have a4 : ∀ k, k < 5 → ρ4 k = ρ3 k := fun k hk => g4.2 k (Nat.lt_of_lt_of_le hk (by decide))
        have hlow := tn_low.ok (r := (ρ2 3).toNat) (by omega) (by omega)
        rw [show (ρ2 3 + -1).toNat = (ρ2 3).toNat - 1 by omega] at v3
        have hz := tn_z.le (f := fun j => ((ρ2 3).toNat &&& ((ρ2 3).toNat - 1)).testBit j) (n := 12) (m := 0)
        rw [← e3] at hI
        have q4 : ρ4 4 = (((ρ2 3).toNat &&& ((ρ2 3).toNat - 1) : Nat) : Int) := by rw [a4 4 (by decide), v3]
        have q2 : ρ4 2 = ρ1 2 := by rw [a4 2 (by decide), a3 2 (by decide), e2]
        have hle : ((ρ2 3).toNat &&& ((ρ2 3).toNat - 1)) ≤ (ρ2 3).toNat - 1 := Nat.and_le_right
        refine tn_at.rf (E' := tk_rh tnz_d0.1 2 11) (tk_rh.ok hE4 (by omega)) rfl ?_
        refine tn_at.wi (n0 := 2) (w := tnz_hw) (E0 := tk_E0 tnz_k) (ρ0 := ρ) (xs := [(0, 2, 0, 1), (0, 4, 0, 0)]) rfl (by decide) rfl hE (fun k hk => by rw [a4 k (by omega), a3 k (by omega), a2 k (by omega), hag k hk]) ⟨rfl, rfl⟩ ?_
        refine ih _ ws4 (fun k hk => by rw [tk_rw.lt hk, a4 k (by omega), a3 k (by omega), a2 k (by omega), hag k hk]) ?_ ?_
        · show (ρ4 4 + 0).toNat ≤ n
          omega
        · show ρ4 2 + 1 + _ = (tn_z (fun j => (ρ4 4 + 0).toNat.testBit j) 0 12 : Int)
          rw [Int.add_zero, q4, Int.toNat_natCast, hlow]
          omega
      · rw [List.mem_singleton] at ho
        subst ho
        have b3 : 0 ≤ ρ2 3 := (hE2 3).1
        have c3 : ρ2 3 ≤ 0 := (hE2 3).2.1
        refine fin (21, tnz_b1) _ ⟨_, _, rfl, rfl⟩ rfl ρ2 ws2 ⟨by decide, fun k hk => by rw [a2 k (by omega), hag k hk]⟩ ?_
        show ρ2 2 + 0 = _
        rw [show (ρ1 3).toNat = 0 by omega, tn_z.no (fun j _ _ => Nat.zero_testBit j)] at hI
        have hz := tn_z.le (f := fun j => (ρ 1).toNat.testBit j) (n := 12) (m := 0)
        unfold tn_cnt
        omega
  refine tn_at.seg (S := tnz_S) hX ty_Ks tnz_ra rfl (fun o ho ρ1 ws1 hE1 z1 g1 f1 => ?_)
  rw [List.mem_singleton] at ho
  subst ho
  have a1 : ∀ k, k < 2 → ρ1 k = ρ k := fun k hk => g1.2 k hk
  refine tn_at.wi (n0 := 2) (w := tnz_hw) (E0 := tk_E0 tnz_k) (ρ0 := ρ) (xs := [(0, 0, 0, 0), (0, 1, 0, 0)]) rfl (by decide) rfl hE a1 ⟨rfl, rfl⟩ ?_
  refine head _ _ ws1 (fun k hk => by rw [tk_rw.lt hk, a1 k hk]) (Nat.le_refl _) ?_
  show ρ1 0 + 0 + _ = (tn_z (fun j => (ρ1 1 + 0).toNat.testBit j) 0 12 : Int)
  rw [z1, a1 1 (by decide), Int.add_zero, Int.add_zero, Int.zero_add]
end HA
