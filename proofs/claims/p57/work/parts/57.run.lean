theorem kc_lnk_mem {i : Instr} {kd : Nat} (h : kd ∈ (kc_lnk i).2) (h0 : kd ≠ 0) (h1 : kd ≠ 1) (h2 : kd ≠ 2) (h3 : kd ≠ 3) (h4 : kd ≠ 4) (h5 : kd ≠ 5) (h6 : kd ≠ 6) : kd = 10 ∨ kd = 11 ∨ kd = 12 := by
  unfold kc_lnk at h
  split at h
  · rcases List.mem_cons.mp h with h | h
    · exact absurd h h0
    · rcases List.mem_cons.mp h with h | h
      · exact Or.inl h
      · cases h
  · rcases List.mem_cons.mp h with h | h
    · exact absurd h h2
    · rcases List.mem_cons.mp h with h | h
      · exact Or.inr (Or.inr h)
      · rcases List.mem_cons.mp h with h | h
        · exact absurd h h3
        · cases h
  · rcases List.mem_cons.mp h with h | h
    · exact absurd h h1
    · rcases List.mem_cons.mp h with h | h
      · exact Or.inr (Or.inl h)
      · rcases List.mem_cons.mp h with h | h
        · exact absurd h h4
        · rcases List.mem_cons.mp h with h | h
          · exact absurd h h5
          · rcases List.mem_cons.mp h with h | h
            · exact absurd h h6
            · cases h
  · cases h
section KQ
variable {T : kc_T} {U : kc_U} {Ts : List Jvm.Cond} {AOs : List String} {NWs : List (String × Nat × MethodName × String)} {y : Nat}
variable {p : Program} {l : Launch} {e : Env} {R : Room} {s : State} {m : MethodId} {args : Array Value} {below : List Frame} {meth : Method} {c : Code} {Q : State → Prop}
variable {D : va_G} {cl : List vw_C} {A : Nat → Prop} {H0 : Heap}
variable {nA : Nat} {ρ0 : Nat → Int} {nB : Nat} {β0 : Nat → Nat}
set_option maxHeartbeats 4000000 in
/-- a call of Object() or of arraycopy -/
theorem kc_invk.ok1 {i : Instr} {n pc : Nat} {S S' : kc_S} (hV : kc_TV T U cl Ts AOs) (hLV : kc_LV T U Ts NWs) (hX : kc_Cx T U Ts AOs NWs y p R s m args meth c A H0 nA ρ0 β0) (hc : kc_Tcd T y pc = some (i, n)) (hkd : kc_kind i = 2) (h : kc_invk T y i n S = some (.inl S'))
    (k : kc_J p l e R s m args below meth c Q D cl A H0 (kc_Tmi T y).1 nA ρ0 nB β0 (pc + 3) S') : kc_J p l e R s m args below meth c Q D cl A H0 (kc_Tmi T y).1 nA ρ0 nB β0 pc S := by
  have hd := hV.1 _ _ _ _ hc
  obtain ⟨hx, hb, hml, hown, hts, hdy, hini, hA, ⟨r1, r2, r3, r4⟩, hXX⟩ := hX
  obtain ⟨E, L, K, Hs, cs, ss⟩ := S
  unfold kc_invk at h
  split at h
  · rename_i kd y' hlk
    obtain ⟨l3, l4, l5, l6, -⟩ := hLV _ _ _ _ hlk
    split at h
    · rename_i hn
      rw [Bool.and_eq_true] at hn
      obtain ⟨hn1, hn2⟩ := hn
      have hn1 := Nat.eq_of_beq_eq_true hn1
      subst hn1
      split at h
      · rename_i e3
        subst e3
        obtain ⟨w1, w2, w3⟩ := l3 rfl
        dsimp only at h
        split at h
        · rename_i k0 d K'
          split at h
          · rename_i hcd
            obtain ⟨c1, c2, c3, c4, c5⟩ := hcd
            cases h
            have hi : i = .invokespecial (kc_lnk i).1 := by
              cases i <;> first | rfl | (exfalso; revert hn2; simp [kc_lnk]; done) | (exfalso; revert hkd; simp [kc_kind]; done)
            rw [hi] at hd
            intro ρ β ws tys H locs ls lv st hk hg
            have hE : kc_env ρ E := hk.1
            have hst : kc_stk ρ β Hs.length E.length ((3, k0, d) :: K') st := hk.2.2.2.2.1
            obtain ⟨v, st', rfl, hlt, hv, hst'⟩ := kc_stk.uncons hst
            have hbe := hE.at (3, k0, d)
            dsimp only at hbe
            rcases hv with ⟨-, ez⟩ | ⟨r, rfl, e1, e2, ez⟩
            · dsimp only at ez; omega
            · refine W.objInit hx hb hown (hts _ w1) (hts _ w2) (hts _ w3) rfl (hk.2.2.2.1.1.trans hml.symm) rfl hd (by omega) ?_ ?_
              · rw [kc_cat.ok hst']
                show 2 * 0 + _ + 12 ≤ R.locals
                omega
              · exact kc_J.go k hk hg hst'
          · cases h
        · cases h
      · split at h
        · rename_i e3 e4
          subst e4
          obtain ⟨w1, w2, w3, w4⟩ := l4 rfl
          split at h
          · rename_i hcd
            obtain ⟨r, hr, hrS⟩ := Option.map_eq_some_iff.mp h
            cases hrS
            have hi : i = .invokestatic (kc_lnk i).1 := by
              cases i <;> first | rfl | (exfalso; revert hn2; simp [kc_lnk]; done) | (exfalso; revert hkd; simp [kc_kind]; done)
            rw [hi] at hd
            exact kc_acp.ok hr hx hb hml hown (hts _ w1) (hts _ w2) (hts _ w3) (hts _ w4) (by omega) (by show 8 + (7 + 11) ≤ R.locals; omega) hd k
          · cases h
        · split at h
          · rename_i e3 e4 e56
            dsimp only at h
            split at h
            · rename_i n2 d2 n1 d1 K'
              split at h
              · rename_i hcd
                obtain ⟨c1, c2, c3, c4, c5⟩ := hcd
                cases h
                have hi : i = .invokestatic (kc_lnk i).1 := by
                  rcases e56 with rfl | rfl <;> cases i <;> first | rfl | (exfalso; revert hn2; simp [kc_lnk]; done) | (exfalso; revert hkd; simp [kc_kind]; done)
                rw [hi] at hd
                intro ρ β ws tys H locs ls lv st hk hg
                show W p l e R s m args below meth c H locs cs ss Q (F0 m pc ls st)
                have hE : kc_env ρ E := hk.1
                have h0 : 0 < E.length ∧ ρ 0 = 0 := hk.2.1
                have hst : kc_stk ρ β Hs.length E.length ((1, n2, d2) :: (1, n1, d1) :: K') st := hk.2.2.2.2.1
                obtain ⟨v2, st1, rfl, hlt2, ⟨x2, rfl, ex2⟩, hst1⟩ := kc_stk.uncons hst
                obtain ⟨v1, st', rfl, hlt1, ⟨x1, rfl, ex1⟩, hst'⟩ := kc_stk.uncons hst1
                rcases e56 with rfl | rfl
                · obtain ⟨w1, w2, w3, w4⟩ := l5 rfl
                  refine va_mmin hx hb (hml.trans hk.2.2.2.1.1.symm) hown (hts _ w1) (hts _ w2) (hts _ w3) (hts _ w4) (by omega) (by rw [kc_cat.ok hst']; omega) (by omega) (by omega) hd ?_
                  have hm := kc_mm.ok (β := β) (N := Hs.length) false hE h0 hlt1 hlt2 ex1 ex2
                  rw [if_neg (show ¬ (false = true) by decide)] at hm
                  exact kc_J.res k hk hg hst' hm
                · obtain ⟨w1, w2, w3, w4⟩ := l6 rfl
                  refine va_mmax hx hb (hml.trans hk.2.2.2.1.1.symm) hown (hts _ w1) (hts _ w2) (hts _ w3) (hts _ w4) (by omega) (by rw [kc_cat.ok hst']; omega) (by omega) (by omega) hd ?_
                  have hm := kc_mm.ok (β := β) (N := Hs.length) true hE h0 hlt1 hlt2 ex1 ex2
                  rw [if_pos (show true = true from rfl)] at hm
                  exact kc_J.res k hk hg hst' hm
              · cases h
            · cases h
          · split at h
            · split at h
              · cases h
              · cases h
            · cases h
    · cases h
  · cases h
set_option maxHeartbeats 4000000 in
/-- a call of a method -/
theorem kc_invk.ok2 {i : Instr} {n pc : Nat} {S : kc_S} {r : Nat × List kc_V × List kc_V} {os : List (Nat × kc_S)} (hV : kc_TV T U cl Ts AOs) (hLV : kc_LV T U Ts NWs) (hG : GoodIn Ts Ts) (hX : kc_Cx T U Ts AOs NWs y p R s m args meth c A H0 nA ρ0 β0) (hc : kc_Tcd T y pc = some (i, n)) (hkd : kc_kind i = 2) (h : kc_invk T y i n S = some (.inr r))
    (hrun : ∀ (p : Program) (e : Env) (s : State) (m : MethodId) (args : Array Value) (below : List Frame) (meth : Method) (c : Code) (Q : State → Prop) (H : Heap) (ρ : Nat → Int) (β : Nat → Nat), kc_Cx T U Ts AOs NWs r.1 p (kc_rm T r.1) s m args meth c A H S.1.length ρ β → (∀ o ∈ os, kc_J p l e (kc_rm T r.1) s m args below meth c Q D cl A H (kc_Tmi T r.1).1 S.1.length ρ S.2.2.2.1.length β o.1 o.2) → kc_J p l e (kc_rm T r.1) s m args below meth c Q D cl A H (kc_Tmi T r.1).1 S.1.length ρ S.2.2.2.1.length β (kc_ent T r.1 r.2.1 S).1 (kc_ent T r.1 r.2.1 S).2)
    (hret : ∀ o ∈ os, kc_Ret T r.1 o)
    (k : ∀ o ∈ os, kc_J p l e R s m args below meth c Q D cl A H0 (kc_Tmi T y).1 nA ρ0 nB β0 (kc_back pc S.2.1 r.2.2 (S.2.2.2.2.1 + (kc_Tmi T r.1).2.2.1) (S.2.2.2.2.2 + (kc_Tmi T r.1).2.2.2.1) o).1 (kc_back pc S.2.1 r.2.2 (S.2.2.2.2.1 + (kc_Tmi T r.1).2.2.1) (S.2.2.2.2.2 + (kc_Tmi T r.1).2.2.2.1) o).2) : kc_J p l e R s m args below meth c Q D cl A H0 (kc_Tmi T y).1 nA ρ0 nB β0 pc S := by
  have hd := hV.1 _ _ _ _ hc
  obtain ⟨hx, hb, hml, hown, hts, hdy, hini, hA, ⟨r1, r2, r3, r4⟩, hXX⟩ := hX
  obtain ⟨E, L, K, Hs, cs, ss⟩ := S
  unfold kc_invk at h
  split at h
  · rename_i kd y' hlk
    obtain ⟨-, -, -, -, l5⟩ := hLV _ _ _ _ hlk
    split at h
    · rename_i hn
      rw [Bool.and_eq_true] at hn
      obtain ⟨hn1, hn2⟩ := hn
      have hn1 := Nat.eq_of_beq_eq_true hn1
      subst hn1
      split at h
      · dsimp only at h
        split at h
        · split at h
          · cases h
          · cases h
        · cases h
      · rename_i e3
        split at h
        · split at h
          · obtain ⟨r, hr, hrS⟩ := Option.map_eq_some_iff.mp h
            cases hrS
          · cases h
        · rename_i e4
          split at h
          · dsimp only at h
            split at h
            · split at h
              · cases h
              · cases h
            · cases h
          rename_i e56
          have e5 : kd ≠ 5 := fun q => e56 (Or.inl q)
          have e6 : kd ≠ 6 := fun q => e56 (Or.inr q)
          obtain ⟨hM, b1, b2, b3, b4, b5⟩ := l5 e3 e4 e5 e6
          split at h
          · rename_i as K' has0
            split at h
            · rename_i hcd
              rw [Bool.and_eq_true] at hcd
              obtain ⟨hcd, hrc⟩ := hcd
              obtain ⟨c1, c2, c3, c4, c5, c6⟩ := of_decide_eq_true hcd
              cases h
              dsimp only at c2 c3 k hrun hret
              intro ρ β ws tys H locs ls lv st hk hg
              show W p l e R s m args below meth c H locs cs ss Q (F0 m pc ls st)
              have hE : kc_env ρ E := hk.1
              have hst : kc_stk ρ β Hs.length E.length K st := hk.2.2.2.2.1
              obtain ⟨hK, hPw, hD, hS, hC⟩ := hk.2.2.2.2.2
              obtain ⟨vs, rest, q1, q2, rfl, q4, -⟩ := kc_args.ok (vs0 := []) has0 hst trivial
              rw [List.append_nil] at q1
              rw [List.length_reverse] at q4
              have hXH : kc_X s A H E.length ρ β := (hXX.mono hg.1 hg.2.2.1 (hg.2.2.2 0 (Nat.zero_le _))).moved (Vm.Alike.refl _) hS.1 hS.2.1
              have hMet := kc_met (l := l) (y := y') (S := (E, L, K, Hs, cs, ss)) (os := os) hV hM hE hk.2.1 q1 hPw hD hC (fun q hq => hA q (Nat.le_trans hS.1 hq)) c6 (fun p e s m args below meth c Q hCx ho => hrun p e s m args below meth c Q H ρ β hCx ho) hret
              have hGw : GoodIn Ts (kc_ws T U Ts y') := fun w hw => by
                rcases List.mem_cons.mp hw with rfl | hw
                · exact hG _ hM.1
                · exact hG _ hw
              have hRR : (kc_rm T y').frames + 1 ≤ R.frames ∧ 8 + ((kc_Tmi T y').1 + 11) + (kc_rm T y').locals ≤ R.locals := ⟨Nat.le_trans c4 r3, by show 8 + ((kc_Tmi T y').1 + 11) + (kc_Tmi T y').2.2.2.2.2.1 ≤ R.locals; omega⟩
              have hcf : CallFix p m c (U.2.2.1 y) (kc_Tmi T y).1 s args Ts (U.1 (kc_Tmi T y).2.2.2.2.2.2.1) := ⟨hx, hb, hml, hown, hts⟩
              have hPre : ∀ Us : State, Us.heap = H → s.WarmedH Us.vm → kc_Pc AOs NWs D cl A vs H tys E.length ρ β vs.toArray Us := fun Us h1 h2 => ⟨rfl, h1, hdy.warm h2, hK.moved h2.alike, hXH.moved h2.alike (Nat.le_refl _) (fun _ _ _ => rfl)⟩
              have hroom : 2 * (F0 m pc ls (vs.reverse ++ rest)).monitorRoom + (rest.map fun v => v.category).sum ≤ 8 := by
                rw [kc_cat.ok q2]
                show 2 * 0 + kc_cat K' ≤ 8
                omega
              have hcells : cs + (kc_Tmi T y').2.2.1 ≤ R.cells ∧ ss + (kc_Tmi T y').2.2.2.1 ≤ R.slots := ⟨Nat.le_trans c2 r1, Nat.le_trans c3 r2⟩
              have hls : (F0 m pc ls (vs.reverse ++ rest)).locals.size = (kc_Tmi T y).1 := hk.2.2.2.1.1
              have hInit := hts _ hM.2.1
              have hobj : kd ≠ 1 → kd ≠ 11 → ∃ (b : Nat) (As : List Value), vs = .ref b :: As ∧ As.length = (kc_Tmi T y').2.1.length - 1 ∧ ∃ cellB : Cell, H[b]? = some cellB ∧ cellB.vm.isStatics = false ∧ s.vm.findClass (U.2.1 y').cls = some cellB.cls := fun n1 n11 => by
                obtain ⟨rr, g, As, rfl, g1, g2, g3⟩ := kc_recv.ok hrc n1 n11 hE q1
                obtain ⟨e0, w1, w2⟩ := hC.2 _ _ g1
                unfold kc_e at w2
                rw [g2] at w2
                obtain ⟨fs, rfl, -⟩ := w2
                have hz0 : ∃ z : vw_C, cl[g.2.1]? = some z ∧ _ := hPw _ _ w1
                obtain ⟨z, hz, -⟩ := hz0
                have hrv := va_recv hK hPw hz w1
                have hzn := (hV.2.2.2.2.2.1 _ z hz).2
                rw [g3, hM.2.2.2.2.1] at hzn
                rw [hzn] at hrv
                refine ⟨_, As, rfl, ?_, hrv⟩
                rw [← q4]
                rfl
              have hend : ∀ X : Array Value, va_Run p l e R s m args below meth c H locs cs ss (kc_Tmi T y').2.2.1 (kc_Tmi T y').2.2.2.1 (F0 m pc ls (vs.reverse ++ rest)) rest (kc_Qc D cl A os E.length ρ Hs.length β X) A → W p l e R s m args below meth c H locs cs ss Q (F0 m pc ls (vs.reverse ++ rest)) := fun X hr => kc_J.after hr hk hg q2 k
              by_cases k0 : kd = 0
              · subst k0
                have hi : i = .invokevirtual (kc_lnk i).1 := by
                  cases i <;> first | rfl | (exfalso; revert hn2; simp [kc_lnk]; done) | (exfalso; revert hkd; simp [kc_kind]; done)
                rw [hi] at hd
                obtain ⟨b, As, rfl, hAs, hcell⟩ := hobj (by decide) (by decide)
                obtain ⟨s1, s2, s3⟩ := b3 (Or.inl rfl)
                exact hend _ (va_runV (rest := rest) hcf hMet ⟨callB_of _ hts hGw rfl rfl rfl hInit (hts _ (b1 (Or.inl rfl))) ⟨hM.2.2.2.1.1, hM.2.2.2.1.2, s3⟩ hRR, hts _ s1, hts _ s2⟩ ⟨kc_Pc.blind, hcell, hPre⟩ rfl hAs hls (by simp) hroom hd hcells)
              · by_cases k1 : kd = 1
                · subst k1
                  have hi : i = .invokestatic (kc_lnk i).1 := by
                    cases i <;> first | rfl | (exfalso; revert hn2; simp [kc_lnk]; done) | (exfalso; revert hkd; simp [kc_kind]; done)
                  rw [hi] at hd
                  obtain ⟨s1, s3⟩ := b4 (Or.inl rfl)
                  exact hend _ (va_runS (rest := rest) hcf hMet ⟨callB_of _ hts hGw rfl rfl rfl hInit (hts _ (b1 (Or.inr (Or.inl rfl)))) ⟨hM.2.2.2.1.1, hM.2.2.2.1.2, s3⟩ hRR, hts _ s1⟩ ⟨kc_Pc.blind, hPre⟩ rfl q4 hls rfl hroom hd hcells)
                · by_cases k2 : kd = 2
                  · subst k2
                    have hi : i = .invokespecial (kc_lnk i).1 := by
                      cases i <;> first | rfl | (exfalso; revert hn2; simp [kc_lnk]; done) | (exfalso; revert hkd; simp [kc_kind]; done)
                    rw [hi] at hd
                    obtain ⟨b, As, rfl, hAs, hcell⟩ := hobj (by decide) (by decide)
                    obtain ⟨s1, s2, s4, s3⟩ := b5 (Or.inl rfl)
                    have hGw2 := hGw
                    unfold kc_ws at hGw2 hMet
                    rw [s4] at hGw2 hMet
                    exact hend _ (va_runI (rest := rest) hcf hMet ⟨callB_of _ hts hGw2 rfl rfl rfl hInit (hts _ (b1 (Or.inr (Or.inr rfl)))) ⟨hM.2.2.2.1.1, hM.2.2.2.1.2, s3⟩ hRR, s2, hts _ s1⟩ ⟨kc_Pc.blind, hPre⟩ rfl hAs hls (by simp) hroom hd hcells)
                  · have hk3 : kd = 10 ∨ kd = 11 ∨ kd = 12 := by
                      exact kc_lnk_mem (i := i) (by simpa using hn2) k0 k1 k2 e3 e4 e5 e6
                    obtain ⟨host, hhost⟩ := b2 hk3
                    have hnw := hdy.2.2 _ hhost
                    rcases hk3 with rfl | rfl | rfl
                    · have hi : i = .invokevirtual (kc_lnk i).1 := by
                        cases i <;> first | rfl | (exfalso; revert hn2; simp [kc_lnk]; done) | (exfalso; revert hkd; simp [kc_kind]; done)
                      rw [hi] at hd
                      obtain ⟨b, As, rfl, hAs, hcell⟩ := hobj (by decide) (by decide)
                      obtain ⟨s1, s2, s3⟩ := b3 (Or.inr rfl)
                      exact hend _ (va_runVN (rest := rest) hcf hMet ⟨va_cnB _ hts hGw rfl rfl rfl hnw hInit ⟨hM.2.2.2.1.1, hM.2.2.2.1.2, s3⟩ hRR, hts _ s1, hts _ s2⟩ ⟨kc_Pc.blind, hcell, hPre⟩ rfl hAs hls (by simp) hroom hd hcells)
                    · have hi : i = .invokestatic (kc_lnk i).1 := by
                        cases i <;> first | rfl | (exfalso; revert hn2; simp [kc_lnk]; done) | (exfalso; revert hkd; simp [kc_kind]; done)
                      rw [hi] at hd
                      obtain ⟨s1, s3⟩ := b4 (Or.inr rfl)
                      exact hend _ (va_runSN (rest := rest) hcf hMet ⟨va_cnB _ hts hGw rfl rfl rfl hnw hInit ⟨hM.2.2.2.1.1, hM.2.2.2.1.2, s3⟩ hRR, hts _ s1, trivial⟩ ⟨kc_Pc.blind, hPre⟩ rfl q4 hls rfl hroom hd hcells)
                    · have hi : i = .invokespecial (kc_lnk i).1 := by
                        cases i <;> first | rfl | (exfalso; revert hn2; simp [kc_lnk]; done) | (exfalso; revert hkd; simp [kc_kind]; done)
                      rw [hi] at hd
                      obtain ⟨b, As, rfl, hAs, hcell⟩ := hobj (by decide) (by decide)
                      obtain ⟨s1, s2, s4, s3⟩ := b5 (Or.inr rfl)
                      have hGw2 := hGw
                      unfold kc_ws at hGw2 hMet
                      rw [s4] at hGw2 hMet
                      exact hend _ (va_runIN (rest := rest) hcf hMet ⟨va_cnB _ hts hGw2 rfl rfl rfl hnw hInit ⟨hM.2.2.2.1.1, hM.2.2.2.1.2, s3⟩ hRR, s2, hts _ s1⟩ ⟨kc_Pc.blind, hPre⟩ rfl hAs hls (by simp) hroom hd hcells)
            · cases h
          · cases h
    · cases h
  · cases h
/-- every end is a return, or a head that is open -/
theorem kc_run.outs : ∀ (f y : Nat) (op : List Nat) (todo outs outs' : List (Nat × kc_S)), kc_run T f y op todo outs = some outs' → (∀ o ∈ outs, o.1 ∈ op ∨ kc_Ret T y o) → ∀ o ∈ outs', o.1 ∈ op ∨ kc_Ret T y o
  | 0, _, _, _, _, _, h, _ => by
    unfold kc_run at h
    cases h
  | f + 1, y, op, [], outs, outs', h, ho => by
    unfold kc_run at h
    cases h
    exact ho
  | f + 1, y, op, q :: rest, outs, outs', h, ho => by
    unfold kc_run at h
    split at h
    · rename_i hop
      refine kc_run.outs f y op rest (q :: outs) outs' h (fun o h1 => ?_)
      rcases List.mem_cons.mp h1 with rfl | h1
      · exact Or.inl (by simpa using hop)
      · exact ho o h1
    · split at h
      · rename_i an i n h1 h2
        split at h
        · split at h
          · rename_i ns hs
            split at h
            · rename_i os hr
              split at h
              · refine kc_run.outs f y op rest _ outs' h (fun o h3 => ?_)
                rcases List.mem_append.mp h3 with h3 | h3
                · obtain ⟨h4, h5⟩ := List.mem_filter.mp h3
                  have h5 := of_decide_eq_true h5
                  rcases kc_run.outs f y (q.1 :: op) ns [] os hr (fun o h => by cases h) o h4 with h6 | h6
                  · rcases List.mem_cons.mp h6 with h6 | h6
                    · exact absurd h6 h5
                    · exact Or.inl h6
                  · exact Or.inr h6
                · exact ho o h3
              · cases h
            · cases h
          · cases h
        · cases h
      · rename_i i n h1 h2
        split at h
        · split at h
          · rename_i hret
            refine kc_run.outs f y op rest _ outs' h (fun o h3 => ?_)
            rcases List.mem_cons.mp h3 with rfl | h3
            · exact Or.inr ⟨i, n, h2, hret⟩
            · exact ho o h3
          · cases h
        · split at h
          · exact kc_run.outs f y op _ _ outs' h ho
          · split at h
            · exact kc_run.outs f y op _ _ outs' h ho
            · cases h
          · cases h
        · split at h
          · exact kc_run.outs f y op _ _ outs' h ho
          · cases h
      · cases h
set_option maxHeartbeats 4000000 in
/-- what the executor runs to, the machine comes to -/
theorem kc_run.ok (hV : kc_TV T U cl Ts AOs) (hLV : kc_LV T U Ts NWs) (hG : GoodIn Ts Ts) : ∀ (f y : Nat) (op : List Nat) (todo outs outs' : List (Nat × kc_S)), kc_run T f y op todo outs = some outs' → ∀ (p : Program) (e : Env) (R : Room) (s : State) (m : MethodId) (args : Array Value) (below : List Frame) (meth : Method) (c : Code) (Q : State → Prop) (H0 : Heap) (nA : Nat) (ρ0 : Nat → Int) (nB : Nat) (β0 : Nat → Nat), kc_Cx T U Ts AOs NWs y p R s m args meth c A H0 nA ρ0 β0 →
    (∀ o ∈ outs', kc_J p l e R s m args below meth c Q D cl A H0 (kc_Tmi T y).1 nA ρ0 nB β0 o.1 o.2) → (∀ o ∈ todo, kc_J p l e R s m args below meth c Q D cl A H0 (kc_Tmi T y).1 nA ρ0 nB β0 o.1 o.2) ∧ ∀ o ∈ outs, kc_J p l e R s m args below meth c Q D cl A H0 (kc_Tmi T y).1 nA ρ0 nB β0 o.1 o.2
  | 0, _, _, _, _, _, h => by
    unfold kc_run at h
    cases h
  | f + 1, y, op, [], outs, outs', h => by
    unfold kc_run at h
    cases h
    intro p e R s m args below meth c Q H0 nA ρ0 nB β0 hX ho
    exact ⟨fun o h => absurd h List.not_mem_nil, ho⟩
  | f + 1, y, op, q :: rest, outs, outs', h => by
    intro p e R s m args below meth c Q H0 nA ρ0 nB β0 hX ho
    have cons : ∀ {P : Nat × kc_S → Prop}, P q → (∀ o ∈ rest, P o) → ∀ o ∈ q :: rest, P o := fun h1 h2 o h3 => by
      rcases List.mem_cons.mp h3 with rfl | h3
      · exact h1
      · exact h2 o h3
    unfold kc_run at h
    split at h
    · obtain ⟨g1, g2⟩ := kc_run.ok hV hLV hG f y op rest (q :: outs) outs' h p e R s m args below meth c Q H0 nA ρ0 nB β0 hX ho
      exact ⟨cons (g2 q List.mem_cons_self) g1, fun o h1 => g2 o (List.mem_cons_of_mem _ h1)⟩
    · split at h
      · rename_i an i n h1 h2
        split at h
        · rename_i hw
          rw [Bool.and_eq_true] at hw
          split at h
          · rename_i ns hs
            split at h
            · rename_i os hr
              split at h
              · rename_i hall
                obtain ⟨g1, g2⟩ := kc_run.ok hV hLV hG f y op rest _ outs' h p e R s m args below meth c Q H0 nA ρ0 nB β0 hX ho
                refine ⟨cons ?_ g1, fun o h3 => g2 o (List.mem_append.mpr (Or.inr h3))⟩
                refine kc_J.loop (an := an) (Wd := kc_wid an q.2) (os := os) (of_decide_eq_true hw.1) hw.2 (fun o h3 h4 => ?_) (fun o h3 h4 => g2 o (List.mem_append.mpr (Or.inl (List.mem_filter.mpr ⟨h3, decide_eq_true h4⟩)))) (fun ρ1 β1 hg hos => ?_)
                · have h5 := List.all_eq_true.mp hall o h3
                  rw [Bool.or_eq_true] at h5
                  rcases h5 with h5 | h5
                  · exact absurd h4 (of_decide_eq_true h5)
                  · exact h5
                · have hX2 : kc_Cx T U Ts AOs NWs y p R s m args meth c A H0 (kc_wid an q.2).1.length ρ1 β1 := by
                    obtain ⟨x1, x2, x3, x4, x5, x6, x7, x8, x9, x10⟩ := hX
                    exact ⟨x1, x2, x3, x4, x5, x6, x7, x8, x9, x10.mono hg.1 hg.2.2.1 (hg.2.2.2 0 (Nat.zero_le _))⟩
                  exact kc_step.ok hV hX2 h2 hs (kc_run.ok hV hLV hG f y (q.1 :: op) ns [] os hr p e R s m args below meth c Q H0 _ ρ1 _ β1 hX2 hos).1
              · cases h
            · cases h
          · cases h
        · cases h
      · rename_i i n h1 h2
        split at h
        · rename_i hkd
          split at h
          · obtain ⟨g1, g2⟩ := kc_run.ok hV hLV hG f y op rest (q :: outs) outs' h p e R s m args below meth c Q H0 nA ρ0 nB β0 hX ho
            exact ⟨cons (g2 q List.mem_cons_self) g1, fun o h1 => g2 o (List.mem_cons_of_mem _ h1)⟩
          · cases h
        · rename_i hkd
          split at h
          · rename_i S' hi
            obtain ⟨g1, g2⟩ := kc_run.ok hV hLV hG f y op _ outs outs' h p e R s m args below meth c Q H0 nA ρ0 nB β0 hX ho
            exact ⟨cons (kc_invk.ok1 hV hLV hX h2 hkd hi (g1 _ List.mem_cons_self)) (fun o h3 => g1 o (List.mem_cons_of_mem _ h3)), g2⟩
          · rename_i r hi
            split at h
            · rename_i os hr
              obtain ⟨g1, g2⟩ := kc_run.ok hV hLV hG f y op _ outs outs' h p e R s m args below meth c Q H0 nA ρ0 nB β0 hX ho
              refine ⟨cons (kc_invk.ok2 (os := os) hV hLV hG hX h2 hkd hi (fun p e s m args below meth c Q H ρ β hCx hos => (kc_run.ok hV hLV hG f r.1 [] _ [] os hr p e (kc_rm T r.1) s m args below meth c Q H _ ρ _ β hCx hos).1 _ List.mem_cons_self) (fun o h3 => ?_) (fun o h3 => g1 _ (List.mem_append.mpr (Or.inl (List.mem_map.mpr ⟨o, h3, rfl⟩))))) (fun o h3 => g1 o (List.mem_append.mpr (Or.inr h3))), g2⟩
              rcases kc_run.outs f r.1 [] _ [] os hr (fun o h => by cases h) o h3 with h4 | h4
              · cases h4
              · exact h4
            · cases h
          · cases h
        · split at h
          · rename_i ns hs
            obtain ⟨g1, g2⟩ := kc_run.ok hV hLV hG f y op _ outs outs' h p e R s m args below meth c Q H0 nA ρ0 nB β0 hX ho
            exact ⟨cons (kc_step.ok hV hX h2 hs (fun o h3 => g1 o (List.mem_append.mpr (Or.inl h3)))) (fun o h3 => g1 o (List.mem_append.mpr (Or.inr h3))), g2⟩
          · cases h
      · cases h
end KQ
