/-- a contract: its method; the symbols at its start (but the first, which is 0), its arguments, facts; its ends; the places that it may write -/
abbrev tk_K : Type := Nat × tk_E × List tk_V × tk_M × List tk_A × List (Nat × Nat × Nat)
def tk_E0 (k : tk_K) : tk_E := (0, 0, 0, 0, 0, 0) :: k.2.1
def tk_pS (T : tk_T) (k : tk_K) (w : tk_A) : Nat × tk_S := (0, tk_E0 k ++ w.1, [], w.2.2.1, w.2.2.2.1, (tk_Tmi T k.1).2.2.1, (tk_Tmi T k.1).2.2.2.1)
/-- what a contract says -/
def tk_Con (T : tk_T) (U : kc_U) (Ts : List Jvm.Cond) (NWs : List (String × Nat × MethodName × String)) (TXs : List (String × Nat × String × Nat)) (St : (Nat → Nat) → State → Heap → Prop) (l : Launch) (D : va_G) (cl : List vw_C) (A : Nat → Prop) (k : tk_K) : Prop :=
  ∀ (ρ : Nat → Int) (B : tk_B) (ws : va_W) (tys : List (ClassId × FieldType)) (H : Heap) (vs : List Value), tk_env ρ (tk_E0 k) → ρ 0 = 0 → tk_stk ρ B (tk_E0 k).length k.2.2.1 vs → tk_mem ρ B (tk_E0 k).length ws k.2.2.2.1 → va_P D cl ws H → va_D A ws → tk_C (tk_TKT T) tys B ws → (∀ q, H.size ≤ q → A q) → B.2.2.length + (tk_Tmi T k.1).2.2.1 ≤ 1000000000 →
    Met l (U.2.1 k.1) (tk_ws_ T U Ts k.1) (tk_rm T k.1) (tk_Pc NWs TXs St D cl B.2.1 vs H tys) (tk_Qc D cl A (tk_TKT T) k.2.2.2.2.2 (tk_Tmi T k.1).2.2.1 (k.2.2.2.2.1.map (tk_pS T k)) (tk_E0 k).length ρ B ws) (tk_Tmi T k.1).2.2.1 (tk_Tmi T k.1).2.2.2.1 A
/-- a number of the contract's end, in its caller's symbols -/
def tk_rp (np base : Nat) (xs : List tk_Lx) (b : tk_P) : Option tk_P := if Nat.ble (b.1 + 1) np = true then (match tk_sb 1 xs b with
  | some p => if Nat.ble (p.1 + 1) base = true then some p else none
  | none => none) else some (base + (b.1 - np), b.2)
def tk_rN (np base : Nat) (xs : List tk_Lx) (j : Nat) (e : tk_N) : Option tk_N := if Nat.beq e.2.2.1 0 = true then some (e.1, e.2.1, 0, 0, 0, 0) else match tk_rp np base xs (e.2.2.2.1, 0), tk_rp np base xs (e.2.2.2.2.1, 0) with
  | some pa, some pb => if (Nat.ble (pa.1 + 1) (base + j) && Nat.ble (pb.1 + 1) (base + j) && Nat.ble e.2.2.1 2) = true then some (e.1, e.2.1, e.2.2.1, pa.1, pb.1, e.2.2.2.2.2 + pa.2 + (if Nat.beq e.2.2.1 1 = true then pb.2 else -pb.2)) else none
  | _, _ => none
def tk_rE (np base : Nat) (xs : List tk_Lx) : Nat → tk_E → Option tk_E
  | _, [] => some []
  | j, e :: es => match tk_rN np base xs j e, tk_rE np base xs (j + 1) es with
    | some e', some es' => some (e' :: es')
    | _, _ => none
def tk_rV (np base : Nat) (xs : List tk_Lx) (v : tk_V) : Option tk_V := (tk_rp np base xs v.2).map (fun p => (v.1, p))
def tk_rK (np base : Nat) (xs : List tk_Lx) : List tk_V → Option (List tk_V)
  | [] => some []
  | v :: vs => match tk_rV np base xs v, tk_rK np base xs vs with
    | some v', some vs' => some (v' :: vs')
    | _, _ => none
def tk_rM (np base : Nat) (xs : List tk_Lx) : tk_M → Option tk_M
  | [] => some []
  | f :: fs => match tk_rV np base xs f.1, tk_rV np base xs f.2.1, tk_rV np base xs f.2.2, tk_rM np base xs fs with
    | some o, some i, some v, some fs' => some ((o, i, v) :: fs')
    | _, _, _, _ => none
/-- a fact that the writes leave -/
def tk_ef (E : tk_E) (eff : List (Nat × Nat × Nat)) (f : tk_V × tk_V × tk_V) : Bool := eff.all (fun q => !(Nat.beq (10 + q.1) f.1.1) || decide (tk_hi E f.2.1.2 < (q.2.1 : Int) ∨ (q.2.2 : Int) < tk_lo E f.2.1.2))
def tk_ap1 (T : tk_T) (k : tk_K) (xs : List tk_Lx) (K' : List tk_V) (S : tk_S) (w : tk_A) : Option tk_S := match tk_rE (tk_E0 k).length S.1.length xs 0 w.1, tk_rK (tk_E0 k).length S.1.length xs w.2.2.1, tk_rM (tk_E0 k).length S.1.length xs w.2.2.2.1 with
  | some E', some Kp, some Mp => some (S.1 ++ E', S.2.1, Kp ++ K', Mp ++ S.2.2.2.1.filter (tk_ef S.1 k.2.2.2.2.2), S.2.2.2.2.1 + (tk_Tmi T k.1).2.2.1, S.2.2.2.2.2 + (tk_Tmi T k.1).2.2.2.1)
  | _, _, _ => none
def tk_apL (T : tk_T) (k : tk_K) (xs : List tk_Lx) (K' : List tk_V) (S : tk_S) : List tk_A → Option (List tk_S)
  | [] => some []
  | w :: ws => match tk_ap1 T k xs K' S w, tk_apL T k xs K' S ws with
    | some s, some ss => some (s :: ss)
    | _, _ => none
/-- a contract at a call: the states behind it -/
def tk_app (T : tk_T) (F : List (Nat × Nat × Nat)) (k : tk_K) (as K' : List tk_V) (S : tk_S) : Option (List tk_S) := if k.2.2.2.2.2.all (fun q => tk_iG F q.1 q.2.1 q.2.2) = true then (match tk_wi 1 S.2.2.2.2.1 S.2.2.2.2.2 (k.2.1, [], k.2.2.1, k.2.2.2.1, (0, 0), true) (S.1, [], as, S.2.2.2.1, S.2.2.2.2.1, S.2.2.2.2.2) with
  | some xs => tk_apL T k xs K' S k.2.2.2.2.1
  | none => none) else none
/-- the caller's numbers behind the call -/
def tk_r2 (np base : Nat) (ρ ρ' : Nat → Int) : Nat → Int := fun k => if k < base then ρ k else ρ' (np + (k - base))
theorem tk_rp.ok {np base : Nat} {xs : List tk_Lx} {ρ ρ' : Nat → Int} {b p : tk_P} (h : tk_rp np base xs b = some p) (ha : ∀ k, k < np → ρ' k = tk_rw 1 xs ρ k) : tk_r2 np base ρ ρ' p.1 + p.2 = ρ' b.1 + b.2 ∧ ∀ n, b.1 < np + n → p.1 < base + n := by
  unfold tk_rp at h
  split at h
  · rename_i hc
    have hc : b.1 < np := Nat.le_of_ble_eq_true hc
    split at h
    · rename_i p' hp
      split at h
      · rename_i hb
        cases h
        have hb : p.1 < base := Nat.le_of_ble_eq_true hb
        refine ⟨?_, fun n _ => by omega⟩
        unfold tk_r2
        rw [if_pos hb, ha _ hc]
        exact (tk_sb.ok hp).1.symm
      · cases h
    · cases h
  · rename_i hc
    have hc : np ≤ b.1 := Nat.le_of_not_lt (fun q => hc (Nat.ble_eq_true_of_le q))
    cases h
    refine ⟨?_, fun n hn => by dsimp only; omega⟩
    unfold tk_r2
    dsimp only
    rw [if_neg (by omega), show np + (base + (b.1 - np) - base) = b.1 by omega]
theorem tk_rN.ok {np base : Nat} {xs : List tk_Lx} {ρ ρ' : Nat → Int} {j : Nat} {e e' : tk_N} {z : Int} (h : tk_rN np base xs j e = some e') (ha : ∀ k, k < np → ρ' k = tk_rw 1 xs ρ k) (hz : tk_dv ρ' (np + j) e z) : tk_dv (tk_r2 np base ρ ρ') (base + j) e' z := by
  unfold tk_rN at h
  split at h
  · cases h
    exact tk_dv.bare hz.1 hz.2.1
  · split at h
    · rename_i pa pb h1 h2
      split at h
      · rename_i hc
        cases h
        simp only [Bool.and_eq_true] at hc
        have c1 : pa.1 < base + j := Nat.le_of_ble_eq_true hc.1.1
        have c2 : pb.1 < base + j := Nat.le_of_ble_eq_true hc.1.2
        obtain ⟨g1, -⟩ := tk_rp.ok h1 ha
        obtain ⟨g2, -⟩ := tk_rp.ok h2 ha
        obtain ⟨z1, z2, -, z4, z5⟩ := hz
        dsimp only at g1 g2
        refine ⟨z1, z2, fun _ => ⟨c1, c2⟩, fun q => ?_, fun q => ?_⟩
        · dsimp only at q ⊢
          have z4 := z4 q
          rw [q, if_pos (show Nat.beq 1 1 = true from rfl)]
          omega
        · dsimp only at q ⊢
          have z5 := z5 q
          rw [q, if_neg (by decide)]
          omega
      · cases h
    · cases h
theorem tk_rE.ok {np base : Nat} {xs : List tk_Lx} {ρ ρ' : Nat → Int} (ha : ∀ k, k < np → ρ' k = tk_rw 1 xs ρ k) : ∀ {es es' : tk_E} {j : Nat}, tk_rE np base xs j es = some es' → es'.length = es.length ∧ ∀ (i : Nat) (e e' : tk_N) (z : Int), es[i]? = some e → es'[i]? = some e' → tk_dv ρ' (np + (j + i)) e z → tk_dv (tk_r2 np base ρ ρ') (base + (j + i)) e' z
  | [], es', j, h => by
    cases h
    exact ⟨rfl, fun i e e' z h => by simp at h⟩
  | e0 :: es, es', j, h => by
    unfold tk_rE at h
    split at h
    · rename_i e1 es1 h1 h2
      cases h
      obtain ⟨g1, g2⟩ := tk_rE.ok ha h2
      refine ⟨by simp [g1], fun i e e' z he he' hz => ?_⟩
      cases i with
      | zero =>
        cases he
        cases he'
        exact tk_rN.ok h1 ha hz
      | succ i =>
        have := g2 i e e' z (by simpa using he) (by simpa using he') (by rw [show j + 1 + i = j + (i + 1) by omega]; exact hz)
        rw [show j + 1 + i = j + (i + 1) by omega] at this
        exact this
    · cases h
theorem tk_rV.ok {np base n : Nat} {xs : List tk_Lx} {ρ ρ' : Nat → Int} {v v' : tk_V} (ha : ∀ k, k < np → ρ' k = tk_rw 1 xs ρ k) (h : tk_rV np base xs v = some v') : v'.1 = v.1 ∧ tk_r2 np base ρ ρ' v'.2.1 + v'.2.2 = ρ' v.2.1 + v.2.2 ∧ (v.2.1 < np + n → v'.2.1 < base + n) := by
  unfold tk_rV at h
  obtain ⟨p, hp, rfl⟩ := Option.map_eq_some_iff.mp h
  obtain ⟨g1, g2⟩ := tk_rp.ok hp ha
  exact ⟨rfl, g1, g2 n⟩
theorem tk_rK.ok {np base n : Nat} {xs : List tk_Lx} {ρ ρ' : Nat → Int} {B : tk_B} (ha : ∀ k, k < np → ρ' k = tk_rw 1 xs ρ k) : ∀ {vs vs' : List tk_V} {st : List Value}, tk_rK np base xs vs = some vs' → tk_stk ρ' B (np + n) vs st → tk_stk (tk_r2 np base ρ ρ') B (base + n) vs' st
  | [], vs', st, h, hs => by
    cases h
    cases st with
    | nil => trivial
    | cons _ _ => exact absurd hs id
  | v :: vs, vs', st, h, hs => by
    unfold tk_rK at h
    split at h
    · rename_i v1 vs1 h1 h2
      cases h
      obtain ⟨x, st', rfl, g1, g2, g3⟩ := tk_stk.uncons hs
      obtain ⟨k1, k2, k3⟩ := tk_rV.ok (n := n) (ρ := ρ) ha h1
      refine ⟨k3 g1, ?_, tk_rK.ok ha h2 g3⟩
      unfold tk_v at g2 ⊢
      rw [k1, k2]
      exact g2
    · cases h
theorem tk_rM.ok {np base n : Nat} {xs : List tk_Lx} {ρ ρ' : Nat → Int} {B : tk_B} {ws : va_W} (ha : ∀ k, k < np → ρ' k = tk_rw 1 xs ρ k) : ∀ {M M' : tk_M}, tk_rM np base xs M = some M' → tk_mem ρ' B (np + n) ws M → tk_mem (tk_r2 np base ρ ρ') B (base + n) ws M'
  | [], M', h, _ => by
    cases h
    exact tk_mem.nil
  | f :: fs, M', h, hm => by
    unfold tk_rM at h
    split at h
    · rename_i o i v fs' h1 h2 h3 h4
      cases h
      obtain ⟨⟨a1, a2, a3⟩, a4⟩ := hm f List.mem_cons_self
      obtain ⟨k1, k2, k3⟩ := tk_rV.ok (n := n) (ρ := ρ) ha h1
      obtain ⟨l1, l2, l3⟩ := tk_rV.ok (n := n) (ρ := ρ) ha h2
      obtain ⟨m1, m2, m3⟩ := tk_rV.ok (n := n) (ρ := ρ) ha h3
      refine tk_mem.cons ⟨⟨k3 a1, l3 a2, m3 a3⟩, ?_⟩ (tk_rM.ok ha h4 (fun g hg => hm g (List.mem_cons_of_mem _ hg)))
      dsimp only
      rw [k1, k2, l2, m1, m2]
      exact a4
    · cases h
theorem tk_ef.ok {ρ : Nat → Int} {E : tk_E} {eff : List (Nat × Nat × Nat)} {f : tk_V × tk_V × tk_V} {zi : Int} (hE : tk_env ρ E) (h : tk_ef E eff f = true) (hz : zi = ρ f.2.1.2.1 + f.2.1.2.2) (h0 : 0 ≤ zi) (h10 : 10 ≤ f.1.1) : tk_iF eff (f.1.1 - 10) zi.toNat = false := by
  rw [Bool.eq_false_iff]
  intro hc
  obtain ⟨q, g1, g2⟩ := List.any_eq_true.mp hc
  simp only [Bool.and_eq_true] at g2
  have e1 := tk_bq g2.1.1
  have e2 := Nat.le_of_ble_eq_true g2.1.2
  have e3 := Nat.le_of_ble_eq_true g2.2
  have h1 := List.all_eq_true.mp h q g1
  rw [Bool.or_eq_true] at h1
  have hb := hE.at f.2.1.2
  rcases h1 with h1 | h1
  · rw [e1, show 10 + (f.1.1 - 10) = f.1.1 by omega, show Nat.beq f.1.1 f.1.1 = true from Nat.beq_refl _] at h1
    cases h1
  · have h1 := of_decide_eq_true h1
    omega
/-- facts over other cells and places that were not written -/
theorem tk_fa.fr {F : List (Nat × Nat × Nat)} {B B' : tk_B} {ws ws' : va_W} {t : Nat} {zo zi zv : Int} {tv : Nat} (h : tk_fa B ws t zo zi tv zv) (hf : tk_fr F B ws ws') (hB : tk_le B B') (hi : tk_iF F (t - 10) zi.toNat = false) : tk_fa B' ws' t zo zi tv zv := by
  obtain ⟨j, a, e, w, h1, h2, h3, h4, h5, h6, h7⟩ := h
  obtain ⟨e0, e', g1, g2, g3⟩ := hf j a _ h2
  rw [h4] at g1
  cases g1
  exact ⟨j, a, e', w, h1, hB.at h2, h3, g2, h5, by rw [g3 _ hi]; exact h6, h7.up hB⟩
section TP
variable {T : tk_T} {U : kc_U} {Ts : List Jvm.Cond} {NWs : List (String × Nat × MethodName × String)} {TXs : List (String × Nat × String × Nat)} {St : (Nat → Nat) → State → Heap → Prop} {y : Nat}
variable {p : Program} {l : Launch} {e : Env} {R : Room} {s : State} {m : MethodId} {args : Array Value} {below : List Frame} {meth : Method} {c : Code} {Q : State → Prop}
variable {D : va_G} {cl : List vw_C} {A : Nat → Prop} {H0 : Heap} {F : List (Nat × Nat × Nat)} {B0 : tk_B} {ws0 : va_W}
variable {nA : Nat} {ρ0 : Nat → Int}
theorem tk_apL.mem {k : tk_K} {xs : List tk_Lx} {K' : List tk_V} {S : tk_S} : ∀ {ps : List tk_A} {rs : List tk_S} {w : tk_A}, tk_apL T k xs K' S ps = some rs → w ∈ ps → ∃ r ∈ rs, tk_ap1 T k xs K' S w = some r
  | [], _, _, _, hw => by cases hw
  | w0 :: ps, rs, w, h, hw => by
    unfold tk_apL at h
    split at h
    · rename_i r rs' h1 h2
      cases h
      rcases List.mem_cons.mp hw with rfl | hw
      · exact ⟨r, List.mem_cons_self, h1⟩
      · obtain ⟨r', g1, g2⟩ := tk_apL.mem h2 hw
        exact ⟨r', List.mem_cons_of_mem _ g1, g2⟩
    · cases h
set_option maxHeartbeats 8000000 in
/-- a call by a contract of the tables -/
theorem tk_app.ok {sc nt : Nat} {i : Instr} {n pc : Nat} {S : tk_S} {k : tk_K} {as K' : List tk_V} {rs : List tk_S} (hV : tk_TV T U cl Ts TXs) (hLV : tk_LV T U Ts NWs) (hG : GoodIn Ts Ts) (hSc : tk_Sc A St) (hTx : ∀ (s : State) (H : Heap) (ad : Nat → Nat), tk_Dx NWs TXs St ad s H → ∀ k, k < nt → ∃ cell : Cell, H[ad k]? = some cell ∧ cell.vm.isStatics = false ∧ s.vm.findClass (U.1 sc) = some cell.cls)
    (hX : tk_Cx T U Ts NWs TXs St y p R s m args meth c A H0 B0 nA ρ0) (hc : tk_Tcd T y pc = some (i, n)) (h : tk_cal T sc nt y i n S = some (k.1, as, K')) (hcon : tk_Con T U Ts NWs TXs St l D cl A k) (ha : tk_app T F k as K' S = some rs)
    (kk : ∀ r ∈ rs, tk_J p l e R s m args below meth c Q D cl A H0 (tk_TKT T) F B0 ws0 (tk_Tmi T y).1 nA ρ0 (pc + 3) r) : tk_J p l e R s m args below meth c Q D cl A H0 (tk_TKT T) F B0 ws0 (tk_Tmi T y).1 nA ρ0 pc S := by
  intro ρ B ws tys H locs ls lv st hk hg
  unfold tk_app at ha
  split at ha
  · rename_i hF
    split at ha
    · rename_i xs hxs
      obtain ⟨hE, h0, hL, hl, hst, hMm, hK, hPw, hD, hS, hC, hFr, hLe, hBl⟩ := id hk
      have hcap := hX.2.2.2.2.2.2.2.2.1
      have hA := hX.2.2.2.2.2.2.1
      refine tk_cal.ok hV hLV hG hSc hTx hX hc h hk (fun vs rest q1 q2 c6 c2 hy0 hM => ?_)
      have hk1 : tk_ok D cl A s H0 (tk_TKT T) F B0 ws0 (tk_Tmi T y).1 (S.1, [], as, S.2.2.2.1, S.2.2.2.2.1, S.2.2.2.2.2) ρ B ws tys H locs ls lv vs := ⟨hE, h0, fun i a h => by simp at h, hl, q1, hMm, hK, hPw, hD, hS, hC, hFr, hLe, hBl⟩
      obtain ⟨w1, w2, w3⟩ := tk_wi.ok (E0 := [(0, 0, 0, 0, 0, 0)]) hxs (by decide) rfl hk1 (fun j hj => by
        have : j = 0 := by omega
        subst this
        rw [h0.2]
        exact tk_dv.bare (Int.le_refl _) (Int.le_refl _))
      obtain ⟨wE, wz, -, -, wst, wM, -⟩ := w1
      have wE : tk_env (tk_rw 1 xs ρ) (tk_E0 k) := wE
      refine ⟨_, hcon (tk_rw 1 xs ρ) B ws tys H vs wE wz.2 wst wM hPw hD hC (fun q hq => hA q (Nat.le_trans hS.1 hq)) (by omega), fun X hr => tk_after hr hS (fun o ho ρ' B' ws' tys' v H' locs' g1 g2 g3 g4 g5 g6 g7 g8 g9 g10 g11 g12 g13 => ?_)⟩
      obtain ⟨w, hw, rfl⟩ := List.mem_map.mp ho
      obtain ⟨r, hr1, hr2⟩ := tk_apL.mem ha hw
      have kr := kk r hr1
      unfold tk_ap1 at hr2
      split at hr2
      · rename_i E' Kp Mp e1 e2 e3
        cases hr2
        have hag : ∀ j, j < (tk_E0 k).length → ρ' j = tk_rw 1 xs ρ j := g4.2
        obtain ⟨r1, r2⟩ := tk_rE.ok (ρ := ρ) hag e1
        have hol : ((tk_pS T k w).2.1).length = (tk_E0 k).length + w.1.length := by
          show (tk_E0 k ++ w.1).length = _
          rw [List.length_append]
        have hpre : ∀ j, j < S.1.length → tk_r2 (tk_E0 k).length S.1.length ρ ρ' j = ρ j := fun j hj => if_pos hj
        have hlen : (S.1 ++ E').length = S.1.length + w.1.length := by rw [List.length_append, r1]
        rw [hol] at g1 g5
        refine kr (tk_r2 (tk_E0 k).length S.1.length ρ ρ') B' ws' tys' H' locs' ls lv (v.toList ++ rest) ⟨fun j => ?_, ⟨by dsimp only; rw [hlen]; have := h0.1; omega, by rw [hpre 0 h0.1]; exact h0.2⟩, hL.ext hpre g12 (by dsimp only; rw [hlen]; omega), hl, ?_, ?_, g6, g7, g8, g9, g10, ?_, hLe.tr g12, by dsimp only; omega⟩ ⟨by dsimp only; rw [hlen]; have := hg.1; omega, fun j hj => by rw [hpre j (Nat.lt_of_lt_of_le hj hg.1)]; exact hg.2 j hj⟩
        · dsimp only
          by_cases q : j < S.1.length
          · rw [tk_at.app q, hpre j q]
            exact (hE j).ext (fun i hi => hpre i (by omega))
          · by_cases q3 : j < S.1.length + w.1.length
            · have h3 : w.1[j - S.1.length]? = some w.1[j - S.1.length] := List.getElem?_eq_getElem (by omega)
              have h4 : E'[j - S.1.length]? = some E'[j - S.1.length] := List.getElem?_eq_getElem (by omega)
              have h5 := g2 ((tk_E0 k).length + (j - S.1.length))
              have h6 : tk_at (tk_pS T k w).2.1 ((tk_E0 k).length + (j - S.1.length)) = w.1[j - S.1.length] := by
                show tk_at (tk_E0 k ++ w.1) _ = _
                unfold tk_at
                rw [List.getD_eq_getElem?_getD, List.getElem?_append_right (by omega), Nat.add_sub_cancel_left, h3]
                rfl
              rw [h6] at h5
              have h7 := r2 (j - S.1.length) _ _ _ h3 h4 (by rw [Nat.zero_add]; exact h5)
              rw [Nat.zero_add, show S.1.length + (j - S.1.length) = j by omega] at h7
              have h8 : tk_at (S.1 ++ E') j = E'[j - S.1.length] := by
                unfold tk_at
                rw [List.getD_eq_getElem?_getD, List.getElem?_append_right (by omega), h4]
                rfl
              rw [h8]
              have h9 : tk_r2 (tk_E0 k).length S.1.length ρ ρ' j = ρ' ((tk_E0 k).length + (j - S.1.length)) := if_neg q
              rw [h9]
              exact h7
            · rw [tk_at.out (by rw [hlen]; omega)]
              have h5 := g2 ((tk_E0 k).length + (j - S.1.length))
              rw [tk_at.out (by rw [hol]; omega)] at h5
              have h9 : tk_r2 (tk_E0 k).length S.1.length ρ ρ' j = ρ' ((tk_E0 k).length + (j - S.1.length)) := if_neg q
              rw [h9]
              exact tk_dv.bare h5.1 h5.2.1
        · dsimp only
          rw [hlen]
          exact tk_stk.app (tk_rK.ok hag e2 g1) (tk_stk.ext hpre g12 (by omega) q2)
        · dsimp only
          rw [hlen]
          have m1 := tk_rM.ok (ρ := ρ) hag e3 g5
          intro f hf
          rcases List.mem_append.mp hf with hf | hf
          · exact m1 f hf
          · obtain ⟨f1, f2⟩ := List.mem_filter.mp hf
            obtain ⟨⟨a1, a2, a3⟩, a4⟩ := hMm f f1
            refine ⟨⟨by omega, by omega, by omega⟩, ?_⟩
            rw [hpre _ a1, hpre _ a2, hpre _ a3]
            obtain ⟨j9, a9, e9, w9, b1, b2, b3, b4, b5, b6, b7⟩ := id a4
            exact a4.fr g11 g12 (tk_ef.ok hE f2 rfl b5 b1)
        · exact hFr.tr g11 hLe (fun κ i hi => by
            obtain ⟨q, y1, y2⟩ := List.any_eq_true.mp hi
            simp only [Bool.and_eq_true] at y2
            have y3 := List.all_eq_true.mp hF q y1
            rw [tk_bq y2.1.1] at y3
            exact tk_iG.ok y3 (Nat.le_of_ble_eq_true y2.1.2) (Nat.le_of_ble_eq_true y2.2))
      · cases hr2
    · cases ha
  · cases ha
end TP
