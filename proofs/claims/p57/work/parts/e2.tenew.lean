/-! ===== a new Town, new Readings, in keep(): by the first executor ===== -/
section TE
variable {l : Launch} {D : va_G} {A : Nat → Prop}
theorem te_dy {ad : Nat → Nat} {s : State} {H : Heap} (h : tk_Dx tw_NWs tw_TXs (tx_St A) ad s H) : kc_Dy kt_AOs kt_NWs s := by
  obtain ⟨h1, -, adV, pw, -, -, -, -, -, h6, h7⟩ := h
  exact ⟨h6, h7, fun q hq => h1 q (List.mem_append_right _ hq)⟩
set_option maxHeartbeats 8000000 in
theorem te_mk {pc ix κ ci yk ixL kd : Nat} {ks : List Nat} {os : List (Nat × kc_S)}
    (hc : tt_cd 66 pc = some (.new ix, 3)) (hdup : tt_cd 66 (pc + 3) = some (.dup, 1)) (hinv : tt_cd 66 (pc + 3 + 1) = some (.invokespecial ixL, 3))
    (hnw : kc_Tnw kt_T 11 ix = some ci) (hlk : kc_Tlk kt_T 11 ixL = some (kd, yk)) (hkd : kd = 2 ∨ kd = 12) (hyk : 1 ≤ yk ∧ yk ≤ 13)
    (hrunk : kc_run kt_T 3000 yk [] [kc_ent kt_T yk [(3, 0, 1)] (te_S0 ci)] [] = some os) (hks : os.all (fun o => te_H tt_kn (κ :: ks) o.2.2.2.2.1 (κ :: ks)) = true)
    (hcl : 1 + (kc_Tmi kt_T yk).2.2.1 ≤ (tt_nw κ).1) (hkl : ks.length + 1 ≤ (tt_nw κ).1) (hsl : (kt_fd ci).length + (kc_Tmi kt_T yk).2.2.2.1 ≤ (tt_nw κ).2.1)
    (hfr : (kc_Tmi kt_T yk).2.2.2.2.1 + 1 ≤ (tt_nw κ).2.2.1) (hlo : 8 + ((kc_Tmi kt_T yk).1 + 11) + (kc_Tmi kt_T yk).2.2.2.2.2.1 ≤ (tt_nw κ).2.2.2) (harg : (kc_Tmi kt_T yk).2.1.length = 1) (hL1 : 1 ≤ (kc_Tmi kt_T yk).1)
    (p : Program) (e : Env) (R : Room) (s : State) (m : MethodId) (args : Array Value) (below : List Frame) (meth : Method) (c : Code) (Q : State → Prop) (H0 : Heap) (F : List (Nat × Nat × Nat)) (B0 : tk_B) (ws0 : va_W) (nA : Nat) (ρ0 : Nat → Int) (S : tk_S) (hX : tk_Cx tt_T tw_U tw_Ts tw_NWs tw_TXs (tx_St A) 66 p R s m args meth c A H0 B0 nA ρ0) (c1 : S.2.2.2.2.1 + (tt_nw κ).1 ≤ (tk_Tmi tt_T 66).2.2.1) (c2 : S.2.2.2.2.2 + (tt_nw κ).2.1 ≤ (tk_Tmi tt_T 66).2.2.2.1) (c3 : (tt_nw κ).2.2.1 ≤ (tk_Tmi tt_T 66).2.2.2.2.1) (c4 : (tt_nw κ).2.2.2 ≤ (tk_Tmi tt_T 66).2.2.2.2.2.1) (c5 : tk_cat S.2.2.1 ≤ 6)
    (kJ : tk_J p l e R s m args below meth c Q D tw_cl A H0 (tk_TKT tt_T) F B0 ws0 (tk_Tmi tt_T 66).1 nA ρ0 (pc + 7) (S.1 ++ [(1, tk_CAP, 0, 0, 0, 0)], S.2.1, (10 + κ, S.1.length, 0) :: S.2.2.1, S.2.2.2.1, S.2.2.2.2.1 + (tt_nw κ).1, S.2.2.2.2.2 + (tt_nw κ).2.1)) : tk_J p l e R s m args below meth c Q D tw_cl A H0 (tk_TKT tt_T) F B0 ws0 (tk_Tmi tt_T 66).1 nA ρ0 pc S := by
  intro ρ B ws tys H locs ls lv st hk hg
  obtain ⟨E, L, K, M, cs, ss⟩ := S
  dsimp only at c1 c2 c5 kJ hk hg ⊢
  obtain ⟨hx, hb, hml, hown, hts, hdx, hA, ⟨r1, r2, r3, r4⟩, hcap, -⟩ := id hX
  obtain ⟨hE, h0, hL, hl, hst, hMm, hK, hPw, hD, hS, hC, hFr, hLe, hBl⟩ := id hk
  dsimp only at hE h0 hL hst hMm hBl
  have hown : s.vm.findClass (kt_U.1 11) = some m.cls := hown
  have hdy := te_dy hdx
  obtain ⟨z, hz, z2, z3, z4⟩ := kt_V.2.2.2.1 11 ix ci hnw
  obtain ⟨q1, q0, q2, q3, q4, q5, q6⟩ := kt_V.2.1 ci z hz
  have q0 : (kt_fd ci).length = z.2.2 := q0
  have hM := kt_mv hyk.1 hyk.2
  obtain ⟨-, -, -, -, l5⟩ := kt_LV 11 ixL kd yk hlk
  obtain ⟨-, b1, b2, -, -, b5⟩ := l5 (by omega) (by omega) (by omega) (by omega)
  obtain ⟨s1, s2, s4, s3⟩ := b5 hkd
  obtain ⟨fs, hfs⟩ : ∃ fs : List Value, fs = (List.range z.2.2).map (fun j => defaultValue ((kt_fd ci).getD j (.int, false)).1) := ⟨_, rfl⟩
  refine va_new (fs := fs) hx hb hts q1 (fun j => ((kt_fd ci).getD j (.int, false)).1) q2 hown (hts _ z2) (hts _ z3) (hts _ z4) hK hPw hD hS hA hz (fun j hj => ?_) (by omega) (by omega) (tw_V.1 66 pc _ _ hc) (fun q H1 u1 u2 u3 => ?_)
  · rw [hfs]
    simp [vp_V, hj]
  refine lv_dup hx hb (tw_V.1 66 _ _ _ hdup) rfl ?_
  have hAq : A q := u2.2 ws.length (q, .inr (ci, fs)) (by simp)
  have hold : ∀ (k : Nat) (r : Nat × va_E), ws[k]? = some r → (ws ++ [(q, .inr (ci, fs))])[k]? = some r := fun k r hr => by
    rw [List.getElem?_append_left (List.getElem?_eq_some_iff.mp hr).1]
    exact hr
  have hlt : ∀ (k : Nat) (r : Nat × va_E), ws[k]? = some r → r.1 < H1.size ∧ r.1 ≠ q := fun k r hr => by
    refine ⟨(u1 k r (hold k r hr)).lt, fun e => ?_⟩
    have h2 := u2.1 k ws.length r (q, .inr (ci, fs)) (hold k r hr) (by simp) e
    have := (List.getElem?_eq_some_iff.mp hr).1
    omega
  have hP1 : va_P D tw_cl [(q, .inr (ci, fs))] H1 := fun k r hr => by
    cases k with
    | zero =>
      cases hr
      exact u1 ws.length _ (by simp)
    | succ k => simp at hr
  have hD1 : va_D (fun a => a = q ∨ H1.size ≤ a) [(q, .inr (ci, fs))] := by
    refine ⟨fun i j a b hi hj _ => ?_, fun k r hr => ?_⟩
    · have := (List.getElem?_eq_some_iff.mp hi).1
      have := (List.getElem?_eq_some_iff.mp hj).1
      simp at *
      omega
    · cases k with
      | zero =>
        cases hr
        exact Or.inl rfl
      | succ k => simp at hr
  have hE1 : kc_env (fun _ => 0) (te_S0 ci).1 := fun n => by
    cases n with
    | zero => exact ⟨Int.le_refl _, Int.le_refl _⟩
    | succ n => exact ⟨Int.le_refl _, Int.le_refl _⟩
  have hC1 : kc_C (fun _ => 0) (fun _ => q) (te_S0 ci).1.length tys (te_S0 ci).2.2.2.1 [(q, .inr (ci, fs))] := by
    refine ⟨rfl, fun k g hg => ?_⟩
    cases k with
    | succ k => cases hg
    | zero =>
      cases hg
      refine ⟨.inr (ci, fs), rfl, ?_⟩
      refine ⟨fs, rfl, by rw [hfs]; simp [q0], fun j a v ha hv => ?_⟩
      dsimp only at ha
      rw [List.getElem?_map] at ha
      cases hf : (kt_fd ci)[j]? with
      | none => rw [hf] at ha; cases ha
      | some y =>
        rw [hf] at ha
        cases ha
        have hj : j < z.2.2 := by rw [← q0]; exact (List.getElem?_eq_some_iff.mp hf).1
        have hv1 : v = defaultValue y.1 := by
          rw [hfs, List.getElem?_map, List.getElem?_range hj] at hv
          have := Option.some.inj hv
          rw [← this]
          show defaultValue ((kt_fd ci).getD j (.int, false)).1 = _
          rw [List.getD_eq_getElem?_getD, hf]
          rfl
        subst hv1
        obtain ⟨d1, d2⟩ := kc_dft.ok (ρ := fun _ => 0) (β := fun _ => q) (N := 1) (q6 y (List.mem_of_getElem? hf)) rfl
        exact ⟨by rw [d1]; exact Nat.zero_lt_one, d2⟩
  have has1 : kc_stk (fun _ => 0) (fun _ => q) (te_S0 ci).2.2.2.1.length (te_S0 ci).1.length [(3, 0, 1)] [.ref q] := ⟨Nat.zero_lt_one, Or.inr ⟨1, rfl, Nat.le_refl _, Nat.le_refl _, rfl⟩, trivial⟩
  have hret : ∀ o ∈ os, kc_Ret kt_T yk o := fun o ho => by
    rcases kc_run.outs 3000 yk [] _ [] os hrunk (fun o h => by cases h) o ho with h | h
    · cases h
    · exact h
  have hMet := kc_met (l := l) (D := D) (y := yk) (S := te_S0 ci) (os := os) (A := fun a => a = q ∨ H1.size ≤ a) (NWs := kt_NWs) kt_V hM hE1 ⟨Nat.zero_lt_one, rfl⟩ has1 hP1 hD1 hC1 (fun a ha => Or.inr ha) hL1 (fun p e s m args below meth c Q hCx ho => (kc_run.ok kt_V kt_LV tw_Ts_good 3000 yk [] _ [] os hrunk p e (kc_rm kt_T yk) s m args below meth c Q H1 _ _ _ _ hCx ho).1 _ List.mem_cons_self) hret
  have hGw : GoodIn tw_Ts (kc_ws kt_T kt_U tw_Ts yk) := fun w hw => by
    rcases List.mem_cons.mp hw with rfl | hw
    · exact tw_Ts_good _ hM.1
    · exact tw_Ts_good _ hw
  have hRR : (kc_rm kt_T yk).frames + 1 ≤ R.frames ∧ 8 + ((kc_Tmi kt_T yk).1 + 11) + (kc_rm kt_T yk).locals ≤ R.locals := ⟨Nat.le_trans hfr (Nat.le_trans c3 r3), Nat.le_trans hlo (Nat.le_trans c4 r4)⟩
  have hcf : CallFix p m c (tw_U.2.2.1 66) (tk_Tmi tt_T 66).1 s args tw_Ts (kt_U.1 11) := ⟨hx, hb, hml, hown, hts⟩
  have hPre : ∀ Us : State, Us.heap = H1 → s.WarmedH Us.vm → kc_Pc kt_AOs kt_NWs D tw_cl (fun a => a = q ∨ H1.size ≤ a) [.ref q] H1 tys (te_S0 ci).1.length (fun _ => 0) (fun _ => q) [Value.ref q].toArray Us := fun Us h1 h2 => ⟨rfl, h1, hdy.warm h2, hK.moved h2.alike, trivial⟩
  have hroom : 2 * (F0 m (pc + 3 + 1) ls (.ref q :: .ref q :: st)).monitorRoom + ((.ref q :: st).map fun v => Value.category v).sum ≤ 8 := by
    rw [List.map_cons, List.sum_cons, tk_cat.ok hst]
    show 2 * 0 + (1 + tk_cat K) ≤ 8
    omega
  have hcells : cs + 1 + (kc_Tmi kt_T yk).2.2.1 ≤ R.cells ∧ ss + z.2.2 + (kc_Tmi kt_T yk).2.2.2.1 ≤ R.slots := ⟨by omega, by omega⟩
  have hInit := hts _ hM.2.1
  have hls : (F0 m (pc + 3 + 1) ls (.ref q :: .ref q :: st)).locals.size = (tk_Tmi tt_T 66).1 := hl.1
  have hn : ([] : List Value).length = (kc_Tmi kt_T yk).2.1.length - 1 := by rw [harg]; rfl
  -- behind the constructor
  have hend : va_Run p l e R s m args below meth c H1 locs (cs + 1) (ss + z.2.2) (kc_Tmi kt_T yk).2.2.1 (kc_Tmi kt_T yk).2.2.2.1 (F0 m (pc + 3 + 1) ls (.ref q :: .ref q :: st)) (.ref q :: st) (kc_Qc D tw_cl (fun a => a = q ∨ H1.size ≤ a) os (te_S0 ci).1.length (fun _ => 0) (te_S0 ci).2.2.2.1.length (fun _ => q) [Value.ref q].toArray) (fun a => a = q ∨ H1.size ≤ a) → W p l e R s m args below meth c H1 locs (cs + 1) (ss + z.2.2) Q (F0 m (pc + 3 + 1) ls (.ref q :: .ref q :: st)) := fun hr => by
    intro TT hT XX
    obtain ⟨v, st₀, t, T', L', g0, X', hL', e1, e2, ⟨o, ho, ρ', β', ws', tys', v', hv, y1, y2, y3, y4, y5, y6, y7, y8, y9⟩, stp⟩ := hr TT hT XX
    cases hv
    obtain ⟨f1, f2⟩ := y9
    rw [g0] at f1 f2
    have hKK := List.all_eq_true.mp hks o ho
    have hbq : β' 1 = q := y4.2.2.2 1 (Nat.le_refl _)
    have hv0 : v = none := by
      obtain ⟨i, n, -, hk1⟩ := hret o ho
      have hrk : kc_Trk kt_T yk = 0 := by
        rcases hM with ⟨-, -, -, -, -, -, -, w1, w2, w3, w4⟩
        have hall : ∀ j, j < 14 → 1 ≤ j → kc_Trk kt_T j = 0 := by decide +kernel
        exact hall yk (by omega) hyk.1
      unfold kc_retok at hk1
      rw [hrk] at hk1
      simp only [Bool.and_eq_true] at hk1
      revert hk1
      cases v with
      | none => intro _; rfl
      | some w =>
        intro hk1
        exfalso
        obtain ⟨-, h3⟩ := hk1
        cases hKs : o.2.2.2.1 with
        | nil => rw [hKs] at y1; exact absurd y1 id
        | cons a tl =>
          rw [hKs] at h3
          split at h3
          · simp [Nat.beq] at h3
          · simp [Nat.beq] at h3
          · simp [Nat.beq] at h3
          · rename_i hq
            cases hq
          · cases h3
    subst hv0
    have hKs : va_K D tw_cl tys' s := y5.moved (by rw [← e2]; exact X'.warmed.alike.symm)
    have hsz : H.size ≤ H.size := Nat.le_refl _
    have hBc : B.2.2.length + (κ :: ks).length ≤ 1000000000 := by
      rw [List.length_cons]
      omega
    have hK2 : va_K D tw_cl (tys ++ tys') s := by
      refine ⟨hK.1, fun k r hr => ?_⟩
      by_cases hk : k < tys.length
      · rw [List.getElem?_append_left hk] at hr
        exact hK.2 k r hr
      · rw [List.getElem?_append_right (by omega)] at hr
        exact hKs.2 _ r hr
    have hP2 : va_P D tw_cl (ws ++ ws') T'.heap := fun k r hr => by
      by_cases hk : k < ws.length
      · rw [List.getElem?_append_left hk] at hr
        obtain ⟨w1, w2⟩ := hlt k r hr
        exact (u1 k r (hold k r hr)).kept (by
          rw [e1]
          exact f2 r.1 w1 (fun hq => by rcases hq with hq | hq; exact w2 hq; omega))
      · rw [List.getElem?_append_right (by omega)] at hr
        rw [e1]
        exact y6 _ r hr
    have hD2 : va_D A (ws ++ ws') := by
      refine ⟨fun i j a b hi hj hab => ?_, fun k r hr => ?_⟩
      · by_cases hi1 : i < ws.length
        · rw [List.getElem?_append_left hi1] at hi
          by_cases hj1 : j < ws.length
          · rw [List.getElem?_append_left hj1] at hj
            exact hD.1 i j a b hi hj hab
          · rw [List.getElem?_append_right (by omega)] at hj
            obtain ⟨w1, w2⟩ := hlt i a hi
            rcases y7.2 _ b hj with w3 | w3
            · exact absurd (hab.trans w3) w2
            · omega
        · rw [List.getElem?_append_right (by omega)] at hi
          by_cases hj1 : j < ws.length
          · rw [List.getElem?_append_left hj1] at hj
            obtain ⟨w1, w2⟩ := hlt j b hj
            rcases y7.2 _ a hi with w3 | w3
            · exact absurd (hab.symm.trans w3) w2
            · omega
          · rw [List.getElem?_append_right (by omega)] at hj
            have := y7.1 _ _ a b hi hj hab
            omega
      · by_cases hk1 : k < ws.length
        · rw [List.getElem?_append_left hk1] at hr
          exact hD.2 k r hr
        · rw [List.getElem?_append_right (by omega)] at hr
          rcases y7.2 _ r hr with w3 | w3
          · rw [w3]; exact hAq
          · exact hA _ (Nat.le_trans u3.1 w3)
    have hS2 : va_S A H0 T'.heap (locs ++ L') := by
      refine ⟨by rw [e1]; exact Nat.le_trans u3.1 f1, fun a h1 h2 => ?_, fun a ha => ?_⟩
      · rw [e1, f2 a (Nat.lt_of_lt_of_le h1 u3.1) (fun hq => by
          rcases hq with hq | hq
          · exact h2 (by rw [hq]; exact hAq)
          · have := u3.1
            omega)]
        exact u3.2.1 a h1 h2
      · rcases List.mem_append.mp ha with h | h
        · exact hS.2.2 a h
        · rcases hL' a h with w | w
          · rw [w]; exact hAq
          · exact hA _ (Nat.le_trans u3.1 w)
    have hC2 : tk_C (tk_TKT tt_T) (tys ++ tys') (te_U B β' (κ :: ks)) (ws ++ ws') := te_C hKK y3.2 hBc hC y8
    have g1 : ∀ k, k < E.length → va_up ρ E.length ((B.2.2.length : Int) + 1) k = ρ k := fun k hk => va_up_ne _ _ (Nat.ne_of_lt hk)
    have g4 : E.length ≤ (E ++ [((1 : Int), tk_CAP, 0, 0, 0, (0 : Int))]).length := by simp
    have hW := kJ (va_up ρ E.length ((B.2.2.length : Int) + 1)) (te_U B β' (κ :: ks)) (ws ++ ws') (tys ++ tys') T'.heap (locs ++ L') ls lv (.ref q :: st) ⟨hE.pushd (tk_dv.bare (by omega) (by unfold tk_CAP; rw [List.length_cons] at hBc; omega)), ⟨by simp, by rw [g1 0 h0.1]; exact h0.2⟩, hL.ext g1 te_U.le g4, hl, ⟨by simp, ?_, tk_stk.ext g1 te_U.le g4 hst⟩, (hMm.ext g1 g4).push te_U.le, hK2, hP2, hD2, hS2, hC2, hFr.push, hLe.tr te_U.le, ?_⟩ (hg.ext g1 g4)
    · obtain ⟨t2, a1, b1⟩ := W.widen (cells := cs + 1 + (kc_Tmi kt_T yk).2.2.1) (slots := ss + z.2.2 + (kc_Tmi kt_T yk).2.2.2.1) (by dsimp only; omega) (by dsimp only; omega) hW T' rfl X'
      exact ⟨t2, stp t2 a1, b1⟩
    · unfold tk_v
      dsimp only
      rw [va_up_self, Int.add_zero]
      refine (tk_vn.ref (by omega)).mpr (Or.inr ⟨B.2.2.length, q, rfl, ?_, rfl⟩)
      show (B.2.2 ++ te_B β' 0 (κ :: ks))[B.2.2.length]? = _
      rw [List.getElem?_append_right (Nat.le_refl _), Nat.sub_self, te_B.at]
      show some (β' (0 + 0 + 1), κ) = _
      rw [show 0 + 0 + 1 = 1 from rfl, hbq, show 10 + κ - 10 = κ by omega]
    · show (B.2.2 ++ te_B β' 0 (κ :: ks)).length ≤ _
      rw [List.length_append, te_B.len, List.length_cons]
      dsimp only
      omega
  rcases hkd with rfl | rfl
  · have hMet2 := hMet
    have hGw2 := hGw
    unfold kc_ws at hGw2 hMet2
    rw [s4] at hGw2 hMet2
    exact hend (va_runI (rest := .ref q :: st) hcf hMet2 ⟨callB_of _ hts hGw2 rfl rfl rfl hInit (hts _ (b1 (Or.inr (Or.inr rfl)))) ⟨hM.2.2.2.1.1, hM.2.2.2.1.2, s3⟩ hRR, s2, hts _ s1⟩ ⟨kc_Pc.blind, hPre⟩ rfl hn hls rfl hroom (tw_V.1 66 _ _ _ hinv) hcells)
  · have hMet2 := hMet
    have hGw2 := hGw
    unfold kc_ws at hGw2 hMet2
    rw [s4] at hGw2 hMet2
    obtain ⟨host, hhost⟩ := b2 (Or.inr (Or.inr rfl))
    have hnw2 := hdy.2.2 _ hhost
    exact hend (va_runIN (rest := .ref q :: st) hcf hMet2 ⟨va_cnB _ hts hGw2 rfl rfl rfl hnw2 hInit ⟨hM.2.2.2.1.1, hM.2.2.2.1.2, s3⟩ hRR, s2, hts _ s1⟩ ⟨kc_Pc.blind, hPre⟩ rfl hn hls rfl hroom (tw_V.1 66 _ _ _ hinv) hcells)
def te_nk1 (y : Nat) (l : List (Nat × Nat)) : Bool := l.all (fun q => (match tt_cd y q.1 with
  | some (.new _, 3) => Nat.beq y 66 && ((Nat.beq q.1 26 && Nat.beq q.2 7) || (Nat.beq q.1 48 && Nat.beq q.2 16))
  | _ => true))
theorem te_nk0 : tw_all2 te_nk1 tt_nks = true := by decide +kernel
theorem te_f1 {α : Type} {P : Nat × α → Bool} : ∀ {l : List (Nat × α)} {k : Nat} {a : α}, l.all P = true → kc_f1 k l = some a → P (k, a) = true
  | [], k, a, _, h => by cases h
  | (j, b) :: l, k, a, h1, h2 => by
    rw [List.all_cons, Bool.and_eq_true] at h1
    unfold kc_f1 at h2
    split at h2
    · rename_i hj
      cases h2
      have := Nat.eq_of_beq_eq_true hj
      subst this
      exact h1.1
    · exact te_f1 h1.2 h2
theorem te_NV : tx_NV l D A := by
  intro y pc ix κ hc hk
  have hc : tt_cd y pc = some (.new ix, 3) := hc
  have hk : tt_nk y pc = some κ := hk
  unfold tt_nk at hk
  split at hk
  · rename_i lst hl
    have h1 := te_f1 (tw_all2.ok te_nk0 hl) hk
    rw [hc] at h1
    have h1 : (Nat.beq y 66 && ((Nat.beq pc 26 && Nat.beq κ 7) || (Nat.beq pc 48 && Nat.beq κ 16))) = true := h1
    rw [Bool.and_eq_true, Bool.or_eq_true, Bool.and_eq_true, Bool.and_eq_true] at h1
    obtain ⟨e1, e2⟩ := h1
    have e1 := Nat.eq_of_beq_eq_true e1
    subst e1
    rcases e2 with ⟨e2, e3⟩ | ⟨e2, e3⟩
    · have e2 := Nat.eq_of_beq_eq_true e2
      have e3 := Nat.eq_of_beq_eq_true e3
      subst e2
      subst e3
      have ht := te_town
      unfold te_ini at ht
      split at ht
      · rename_i os ho
        have hix : ix = 17 := by
          have h9 : tt_cd 66 26 = some (.new 17, 3) := rfl
          rw [h9] at hc
          cases hc
          rfl
        subst hix
        exact te_mk (ks := te_tk.tail) (ixL := 19) (kd := 2) (ci := 9) (yk := 13) (os := os) hc rfl rfl rfl rfl (Or.inl rfl) ⟨by decide, by decide⟩ ho ht (by decide) (by decide) (by decide) (by decide) (by decide) rfl (by decide)
      · cases ht
    · have e2 := Nat.eq_of_beq_eq_true e2
      have e3 := Nat.eq_of_beq_eq_true e3
      subst e2
      subst e3
      have ht := te_read
      unfold te_ini at ht
      split at ht
      · rename_i os ho
        have hix : ix = 37 := by
          have h9 : tt_cd 66 48 = some (.new 37, 3) := rfl
          rw [h9] at hc
          cases hc
          rfl
        subst hix
        exact te_mk (ks := te_rk.tail) (ixL := 39) (kd := 12) (ci := 3) (yk := 7) (os := os) hc rfl rfl rfl rfl (Or.inr rfl) ⟨by decide, by decide⟩ ho ht (by decide) (by decide) (by decide) (by decide) (by decide) rfl (by decide)
      · cases ht
  · cases hk
end TE
