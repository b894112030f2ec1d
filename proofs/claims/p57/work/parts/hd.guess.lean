/-! ===== guess of the reference ===== -/
section HG
variable {l : Launch} {D : va_G} {A : Nat → Prop}
theorem tn_sw.J2 {B : tk_B} {ws ws1 : va_W} (h : tn_sw B ws ws1) {zc zo zd : Int} {κ1 κ2 κ3 : Nat} (h1 : tl_kd B zc κ1) (h2 : tl_kd B zo κ2) (h3 : tl_kd B zd κ3) (hJ : tl_J2 ws zc zo zd) : tl_J2 ws1 zc zo zd := hJ.tr (h _ _ h1) (h _ _ h2) (h _ _ h3)
set_option maxHeartbeats 16000000 in
theorem tng_con : ty_NCon l D A tng_k (tl_JP (4, 6, 7)) (fun ρ _ _ _ _ _ ws' _ _ => tl_J2 ws' (ρ 4) (ρ 6) (ρ 7)) := by
  refine tn_walk (k := tng_k) (show (166 : Nat) ≠ 0 by decide) (tw_mv (y := 166) (by decide) (by decide)) (Nat.le_of_ble_eq_true rfl) ?_
  intro ρ B ws H p e s m args below meth c hE h0 hP hX hr hlocks hH hM
  have k4 : tl_kd B (ρ 4) 82 := (tl_j1 (a := 4) (i := 52) (κ := 82) (zm := (1, 0)) hE hM (by decide)).1
  have k6 : tl_kd B (ρ 6) 83 := (tl_j1 (a := 6) (i := 53) (κ := 83) (zm := (1, 0)) hE hM (by decide)).1
  have k7 : tl_kd B (ρ 7) 84 := (tl_j1 (a := 7) (i := 54) (κ := 84) (zm := (1, 0)) hE hM (by decide)).1
  have fin : ∀ (o : Nat × tk_S) (xs : List tk_Lx), tk_Ret tt_T 166 o → tk_wi 8 0 0 tng_w0 (o.2.1, [], o.2.2.2.1, o.2.2.2.2.1, 0, 0) = some xs → ∀ (ρ' : Nat → Int) (ws' : va_W), tk_ag 8 ρ o.2.1.length ρ' → tl_J2 ws' (ρ 4) (ρ 6) (ρ 7) → tn_at p l e (tk_rm tt_T 166) s m args below meth c (MQ below (tn_Qc tt_T D tw_cl A tng_k ρ B ws (fun _ _ _ ws' _ _ => tl_J2 ws' (ρ 4) (ρ 6) (ρ 7))) args s (tk_Tmi tt_T 166).2.2.1 (tk_Tmi tt_T 166).2.2.2.1 A) D A H tng_F B ws 166 o.1 o.2 ρ' ws' := fun o xs hR hxs ρ' ws' hg hv =>
    tn_at.ret (k := tng_k) (w := tng_w0) (Z := fun _ _ _ ws' _ _ => tl_J2 ws' (ρ 4) (ρ 6) (ρ 7)) (show (166 : Nat) ≠ 0 by decide) (tw_mv (y := 166) (by decide) (by decide)) hX hr hlocks hH hR hE hg List.mem_cons_self hxs (fun _ _ => hv)
  refine tn_at.seg (S := tng_S) (F' := [(43, 0, 0)]) hX ty_Ks tng_ra rfl (fun o ho ρa wsa hEa za ga fa => ?_)
  have aa : ∀ k, k < 8 → ρa k = ρ k := fun k hk => ga.2 k hk
  have hJa : tl_J2 wsa (ρ 4) (ρ 6) (ρ 7) := tl_J2.tr hP (fun _ => tl_pl.fr fa k4 rfl) (fun _ => tl_pl.fr fa k6 rfl) (fun _ => tl_pl.fr fa k7 rfl)
  rcases List.mem_cons.mp ho with rfl | ho
  · have head : ∀ (n : Nat) (ρ1 : Nat → Int) (ws1 : va_W), (∀ k, k < 11 → ρ1 k = ρa k) → tn_sw B wsa ws1 → (120 - ρ1 13).toNat = n → (0 ≤ ρ1 12 → ρ1 12 < ρ1 13 ∧ ρ1 12 < ρ 5 ∧ ∃ x : Int32, tl_pl wsa (ρ 6) (ρ1 12).toNat = some (.int x) ∧ x.toInt = ρ 2) → (0 ≤ ρ1 11 → ρ1 11 < ρ1 12 ∧ ∃ x : Int32, tl_pl wsa (ρ 6) (ρ1 11).toNat = some (.int x) ∧ x.toInt = ρ 2) → tn_at p l e (tk_rm tt_T 166) s m args below meth c (MQ below (tn_Qc tt_T D tw_cl A tng_k ρ B ws (fun _ _ _ ws' _ _ => tl_J2 ws' (ρ 4) (ρ 6) (ρ 7))) args s (tk_Tmi tt_T 166).2.2.1 (tk_Tmi tt_T 166).2.2.2.1 A) D A H tng_F B ws 166 31 tng_h ρ1 ws1 := by
      intro n
      induction n using Nat.strongRecOn with
      | ind n ih =>
      intro ρ1 ws1 hag hsw hn hIb hIa
      have more : ∀ (o : tk_S) (a b : Nat), tk_wi 11 0 0 tng_hw o = some [(0, a, 0, 0), (0, b, 0, 0), (0, 13, 0, 1)] → o.2.2.2.2.1 = 0 ∧ o.2.2.2.2.2 = 0 → ∀ (ρ' : Nat → Int) (ws' : va_W), (∀ k, k < 14 → ρ' k = ρ1 k) → tn_sw B wsa ws' → ρ1 13 ≤ 119 → (0 ≤ ρ' b → ρ' b < ρ1 13 + 1 ∧ ρ' b < ρ 5 ∧ ∃ x : Int32, tl_pl wsa (ρ 6) (ρ' b).toNat = some (.int x) ∧ x.toInt = ρ 2) → (0 ≤ ρ' a → ρ' a < ρ' b ∧ ∃ x : Int32, tl_pl wsa (ρ 6) (ρ' a).toNat = some (.int x) ∧ x.toInt = ρ 2) → tn_at p l e (tk_rm tt_T 166) s m args below meth c (MQ below (tn_Qc tt_T D tw_cl A tng_k ρ B ws (fun _ _ _ ws' _ _ => tl_J2 ws' (ρ 4) (ρ 6) (ρ 7))) args s (tk_Tmi tt_T 166).2.2.1 (tk_Tmi tt_T 166).2.2.2.1 A) D A H tng_F B ws 166 31 o ρ' ws' := fun o a b hxs hcs ρ' ws' hr' hs' hk hb' ha' => by
        have q13 := hr' 13 (by decide)
        refine tn_at.wi (n0 := 11) (E0 := tng_a0.1) (ρ0 := ρa) hxs (by decide) rfl hEa (fun k hk => by rw [hr' k (by omega), hag k hk]) hcs ?_
        have x11 : tk_rw 11 [(0, a, 0, 0), (0, b, 0, 0), (0, 13, 0, 1)] ρ' 11 = ρ' a := Int.add_zero _
        have x12 : tk_rw 11 [(0, a, 0, 0), (0, b, 0, 0), (0, 13, 0, 1)] ρ' 12 = ρ' b := Int.add_zero _
        have x13 : tk_rw 11 [(0, a, 0, 0), (0, b, 0, 0), (0, 13, 0, 1)] ρ' 13 = ρ1 13 + 1 := by
          show ρ' 13 + 1 = _
          rw [q13]
        refine ih (120 - (ρ1 13 + 1)).toNat (by clear hIb hIa hb' ha'; omega) _ ws' (fun k hk => by rw [tk_rw.lt hk, hr' k (by omega), hag k hk]) hs' (by rw [x13]) ?_ ?_
        · rw [x12, x13]
          exact hb'
        · rw [x11, x12]
          exact ha'
      refine tn_at.seg (S := tng_h) hX ty_Ks tng_rb rfl (fun o ho ρ2 ws2 hE2 z2 g2 f2 => ?_)
      rw [List.mem_singleton] at ho
      subst ho
      have a2 : ∀ k, k < 14 → ρ2 k = ρ1 k := fun k hk => g2.2 k hk
      have s2 := hsw.fr f2
      refine tn_at.seg (S := tng_b0) hX ty_Ks tng_rc rfl (fun o ho ρ3 ws3 hE3 z3 g3 f3 => ?_)
      have a3 : ∀ k, k < 14 → ρ3 k = ρ1 k := fun k hk => by rw [g3.2 k hk, a2 k hk]
      have s3 := s2.fr f3
      have e13 := a3 13 (by decide)
      have keep : ∀ (o : tk_S), tk_wi 11 0 0 tng_hw o = some [(0, 11, 0, 0), (0, 12, 0, 0), (0, 13, 0, 1)] → o.2.2.2.2.1 = 0 ∧ o.2.2.2.2.2 = 0 → ρ1 13 ≤ 119 → tn_at p l e (tk_rm tt_T 166) s m args below meth c (MQ below (tn_Qc tt_T D tw_cl A tng_k ρ B ws (fun _ _ _ ws' _ _ => tl_J2 ws' (ρ 4) (ρ 6) (ρ 7))) args s (tk_Tmi tt_T 166).2.2.1 (tk_Tmi tt_T 166).2.2.2.1 A) D A H tng_F B ws 166 31 o ρ3 ws3 := fun o hxs hcs hk => by
        refine more o 11 12 hxs hcs ρ3 ws3 a3 s3 hk ?_ ?_
        · rw [a3 12 (by decide)]
          intro q
          obtain ⟨q1, q2, q3⟩ := hIb q
          exact ⟨by omega, q2, q3⟩
        · rw [a3 11 (by decide), a3 12 (by decide)]
          exact hIa
      rcases List.mem_cons.mp ho with rfl | ho
      · have b13 : ρ3 13 ≤ 119 := (hE3 13).2.1
        exact keep tng_c0 rfl ⟨rfl, rfl⟩ (by omega)
      rcases List.mem_cons.mp ho with rfl | ho
      · have b13 : ρ3 13 ≤ 119 := (hE3 13).2.1
        exact keep tng_c1 rfl ⟨rfl, rfl⟩ (by omega)
      rcases List.mem_cons.mp ho with rfl | ho
      · have b13 : ρ3 13 ≤ 119 := (hE3 13).2.1
        exact keep tng_c2 rfl ⟨rfl, rfl⟩ (by omega)
      rcases List.mem_cons.mp ho with rfl | ho
      · -- one of them
        have b13 : ρ3 13 ≤ 119 := (hE3 13).2.1
        have c13 : 0 ≤ ρ3 13 := (hE3 13).1
        have d14 : ρ3 14 = ρ3 13 - ρ3 5 + 0 := (hE3 14).2.2.2.2 rfl
        have b14 : ρ3 14 ≤ -1 := (hE3 14).2.1
        have d16 : ρ3 16 = ρ3 15 - ρ3 2 + 0 := (hE3 16).2.2.2.2 rfl
        have b16 : 0 ≤ ρ3 16 ∧ ρ3 16 ≤ 0 := ⟨(hE3 16).1, (hE3 16).2.1⟩
        have e2 : ρ3 2 = ρ 2 := by rw [a3 2 (by decide), hag 2 (by decide), aa 2 (by decide)]
        have e5 : ρ3 5 = ρ 5 := by rw [a3 5 (by decide), hag 5 (by decide), aa 5 (by decide)]
        have e6 : ρ3 6 = ρ 6 := by rw [a3 6 (by decide), hag 6 (by decide), aa 6 (by decide)]
        refine tn_at.know (fun _ _ hkn => ?_)
        obtain ⟨B', tys', hle, hM3, -⟩ := hkn
        obtain ⟨x, x1, x2, -, -⟩ := tl_int (to := 93) (so := 6) (co := 0) (ti := 1) (si := 13) (ci := 0) (sv := 15) (cv := 0) hM3 (by
          have h : tng_c3.2.2.2.1.any (tl_veq3 ((93, 6, 0), (1, 13, 0), (1, 15, 0))) = true := rfl
          obtain ⟨f, f1, f2⟩ := List.any_eq_true.mp h
          rw [tl_veq3.ok f2]
          exact f1)
        rw [Int.add_zero, Int.add_zero, e6, s3 _ _ k6] at x1
        refine more tng_c3 12 13 rfl ⟨rfl, rfl⟩ ρ3 ws3 a3 s3 (by omega) (fun _ => ⟨by omega, by omega, x, x1, by omega⟩) ?_
        rw [a3 12 (by decide), a3 13 (by decide)]
        intro q
        obtain ⟨q1, q2, q3⟩ := hIb q
        exact ⟨q1, q3⟩
      · rw [List.mem_singleton] at ho
        subst ho
        by_cases q : 0 ≤ ρ1 11
        · obtain ⟨i1, i2⟩ := hIa q
          obtain ⟨j1, j2, j3⟩ := hIb (by omega)
          have e11 := a3 11 (by decide)
          have e12 := a3 12 (by decide)
          have c12 : ρ3 12 ≤ 119 := (hE3 12).2.1
          have c11 : ρ3 11 ≤ 119 := (hE3 11).2.1
          refine tn_at.rf (E' := tng_p.1) (show tk_env ρ3 (tk_rf (tk_rf tng_c4.1 11 0 119) 12 1 119) from tk_rf.ok (tk_rf.ok hE3 (by omega) (by omega)) (by omega) (by omega)) rfl ?_
          refine tn_at.seg (S := tng_p) hX ty_Ks tng_rq rfl (fun o ho ρ4 ws4 hE4 z4 g4 f4 => ?_)
          rw [List.mem_singleton] at ho
          subst ho
          have a4 : ∀ k, k < 14 → ρ4 k = ρ1 k := fun k hk => by rw [g4.2 k (Nat.lt_of_lt_of_le hk (by decide)), a3 k hk]
          have s4 := s3.fr f4
          refine tn_at.know (fun _ _ hkn => ?_)
          obtain ⟨B', tys', hle, hM4, -⟩ := hkn
          have mm : ∀ (f : tk_V × tk_V × tk_V), tng_q0.2.2.2.1.any (tl_veq3 f) = true → f ∈ tng_q0.2.2.2.1 := fun f h => by
            obtain ⟨f', f1, f2⟩ := List.any_eq_true.mp h
            rw [tl_veq3.ok f2]
            exact f1
          obtain ⟨xa, xa1, xa2, -, -⟩ := tl_int (to := 94) (so := 7) (co := 0) (ti := 1) (si := 11) (ci := 0) (sv := 21) (cv := 0) hM4 (mm _ rfl)
          obtain ⟨xb, xb1, xb2, -, -⟩ := tl_int (to := 94) (so := 7) (co := 0) (ti := 1) (si := 12) (ci := 0) (sv := 18) (cv := 0) hM4 (mm _ rfl)
          obtain ⟨xc, xc1, xc2, -, -⟩ := tl_int (to := 92) (so := 4) (co := 0) (ti := 1) (si := 0) (ci := 0) (sv := 5) (cv := 0) hM4 (mm _ rfl)
          have e4 : ρ4 4 = ρ 4 := by rw [a4 4 (by decide), hag 4 (by decide), aa 4 (by decide)]
          have e5 : ρ4 5 = ρ 5 := by rw [a4 5 (by decide), hag 5 (by decide), aa 5 (by decide)]
          have e7 : ρ4 7 = ρ 7 := by rw [a4 7 (by decide), hag 7 (by decide), aa 7 (by decide)]
          rw [Int.add_zero, Int.add_zero, e7, a4 11 (by decide), s4 _ _ k7] at xa1
          rw [Int.add_zero, Int.add_zero, e7, a4 12 (by decide), s4 _ _ k7] at xb1
          rw [Int.add_zero, Int.add_zero, e4, z4, s4 _ _ k4] at xc1
          obtain ⟨xo, xo1, xo2⟩ := i2
          obtain ⟨xp, xp1, xp2⟩ := j3
          have hop : xp = xo := Int32.toInt_inj.mp (by rw [xo2, xp2])
          subst hop
          have hlt := hJa 0 (by decide) xc xc1 (ρ1 11).toNat (ρ1 12).toNat (by omega) (by omega) (by omega) xp xa xb (by rw [Nat.mul_zero, Nat.zero_add]; exact xo1) (by rw [Nat.mul_zero, Nat.zero_add]; exact xp1) (by rw [Nat.mul_zero, Nat.zero_add]; exact xa1) (by rw [Nat.mul_zero, Nat.zero_add]; exact xb1)
          have d22 : ρ4 22 = ρ4 18 - ρ4 21 + 0 := (hE4 22).2.2.2.2 rfl
          have c22 : ρ4 22 ≤ 729 := (hE4 22).2.1
          refine tn_at.rf (E' := tng_r.1) (show tk_env ρ4 (tk_rf tng_q0.1 22 1 729) from tk_rf.ok hE4 (by omega) c22) rfl ?_
          refine tn_at.seg (S := tng_r) hX ty_Ks tng_rs rfl (fun o ho ρ5 ws5 hE5 z5 g5 f5 => ?_)
          rw [List.mem_singleton] at ho
          subst ho
          have a5 : ∀ k, k < 14 → ρ5 k = ρ1 k := fun k hk => by rw [g5.2 k (Nat.lt_of_lt_of_le hk (by decide)), a4 k hk]
          exact fin (139, tng_s0) _ ⟨_, _, rfl, rfl⟩ rfl ρ5 ws5 ⟨by decide, fun k hk => by rw [a5 k (by omega), hag k (by omega), aa k hk]⟩ ((s4.fr f5).J2 k4 k6 k7 hJa)
        · have e11 := a3 11 (by decide)
          have c11 : -1 ≤ ρ3 11 := (hE3 11).1
          refine tn_at.rf (E' := tng_n.1) (show tk_env ρ3 (tk_rf tng_c4.1 11 (-1000000000) (-1)) from tk_rf.ok hE3 (by omega) (by omega)) rfl ?_
          refine tn_at.seg (S := tng_n) hX ty_Ks tng_ro rfl (fun o ho ρ4 ws4 hE4 z4 g4 f4 => ?_)
          rw [List.mem_singleton] at ho
          subst ho
          exact fin (85, tng_o0) _ ⟨_, _, rfl, rfl⟩ rfl ρ4 ws4 ⟨by decide, fun k hk => by rw [g4.2 k (Nat.lt_of_lt_of_le hk (by decide)), a3 k (by omega), hag k (by omega), aa k hk]⟩ ((s3.fr f4).J2 k4 k6 k7 hJa)
    refine tn_at.wi (n0 := 11) (w := tng_hw) (E0 := tng_a0.1) (ρ0 := ρa) (xs := [(0, 0, 0, -1), (0, 0, 0, -1), (0, 0, 0, 0)]) rfl (by decide) rfl hEa (fun k hk => rfl) ⟨rfl, rfl⟩ ?_
    refine head _ _ wsa (fun k hk => by rw [tk_rw.lt hk]) tn_sw.rf rfl (fun q => ?_) (fun q => ?_)
    · have q : 0 ≤ ρa 0 + -1 := q
      omega
    · have q : 0 ≤ ρa 0 + -1 := q
      omega
  rcases List.mem_cons.mp ho with rfl | ho
  · exact fin (22, tng_a1) _ ⟨_, _, rfl, rfl⟩ rfl ρa wsa ⟨by decide, aa⟩ hJa
  rcases List.mem_cons.mp ho with rfl | ho
  · exact fin (22, tng_a2) _ ⟨_, _, rfl, rfl⟩ rfl ρa wsa ⟨by decide, aa⟩ hJa
  rcases List.mem_cons.mp ho with rfl | ho
  · exact fin (22, tng_a3) _ ⟨_, _, rfl, rfl⟩ rfl ρa wsa ⟨by decide, aa⟩ hJa
  · rw [List.mem_singleton] at ho
    subst ho
    exact fin (22, tng_a4) _ ⟨_, _, rfl, rfl⟩ rfl ρa wsa ⟨by decide, aa⟩ hJa
end HG
