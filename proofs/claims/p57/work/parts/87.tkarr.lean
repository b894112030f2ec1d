/-- what is read between lo and hi -/
def tk_hl (d : tk_F) (fs : List tk_F) (lo hi : Int) : tk_F := match fs with
  | [] => d
  | g :: gs => if hi < ((g :: gs).length : Int) then (match ((g :: gs).drop lo.toNat).take (hi + 1 - lo).toNat with
    | [] => kc_joins d (g :: gs)
    | f :: r => kc_joins f r) else kc_joins d (g :: gs)
def tk_ix (E : tk_E) (i : tk_P) (n : Nat) : Bool := decide (0 ≤ tk_lo E i ∧ tk_hi E i < (n : Int))
def tk_ald (KT : Nat → tk_G) (ins : Instr) (E : tk_E) (K : List tk_V) (M : tk_M) : Option (tk_E × List tk_V × tk_M) := match K with
  | (1, i) :: (t, a) :: K' => if (tk_nm E t a && kc_alk ins (KT (t - 10)).1 (KT (t - 10)).2.2.1 && tk_ix E i (KT (t - 10)).2.2.2.1) = true then
      (match tk_mf E (t, a) (1, i) M with
      | some v => some (E, v :: K', M)
      | none => if (KT (t - 10)).2.2.2.2.2.1.all (fun f => Nat.beq f.1 (KT (t - 10)).2.2.2.2.1.1) = true then
          (let f := tk_hl (KT (t - 10)).2.2.2.2.1 (KT (t - 10)).2.2.2.2.2.1 (tk_lo E i) (tk_hi E i)
           let q := tk_mk E f.2.1 f.2.2
           some (q.1, (f.1, q.2) :: K', if (KT (t - 10)).2.2.2.2.2.2.2 = true then ((t, a), (1, i), (f.1, q.2)) :: M else M)) else none)
      else none
  | _ => none
/-- an int of the script -/
def tk_sld (sc : Bool) (E : tk_E) (K : List tk_V) : Option (tk_E × List tk_V) := match K with
  | (1, i) :: (5, _) :: K' => if sc = true ∧ 0 ≤ tk_lo E i ∧ (tk_B2 E i.1 1).2 + i.2 < 0 then some ((tk_any 1 E).1, (1, (tk_any 1 E).2) :: K') else none
  | _ => none
def tk_aln (sc : Bool) (KT : Nat → tk_G) (E : tk_E) (K : List tk_V) : Option (List tk_V) := match K with
  | (5, _) :: K' => if sc = true then some ((1, 1, 0) :: K') else none
  | (t, a) :: K' => if (tk_nm E t a && !(Nat.beq (KT (t - 10)).1 0) && Nat.ble (KT (t - 10)).2.2.2.1 2147483647) = true then some ((1, 0, ((KT (t - 10)).2.2.2.1 : Int)) :: K') else none
  | _ => none
/-- may a value stand where the index goes -/
def tk_ws (d : tk_F) (fs : List tk_F) (E : tk_E) (w : tk_V) (i : tk_P) : Bool := match fs with
  | [] => Nat.beq d.1 w.1 && decide (d.2.1 ≤ tk_lo E w.2 ∧ tk_hi E w.2 ≤ d.2.2)
  | g :: gs => (List.range (tk_hi E i + 1 - tk_lo E i).toNat).all (fun k => Nat.beq ((g :: gs).getD ((tk_lo E i).toNat + k) d).1 w.1 && decide (((g :: gs).getD ((tk_lo E i).toNat + k) d).2.1 ≤ tk_lo E w.2 ∧ (tk_hi E w.2 ≤ ((g :: gs).getD ((tk_lo E i).toNat + k) d).2.2 ∨ (tk_lo E i + (k : Int)) + ((tk_B2 E w.2.1 i.1).2 + w.2.2 - i.2) ≤ ((g :: gs).getD ((tk_lo E i).toNat + k) d).2.2)))
def tk_iG (F : List (Nat × Nat × Nat)) (κ lo hi : Nat) : Bool := F.any (fun q => Nat.beq q.1 κ && Nat.ble q.2.1 lo && Nat.ble hi q.2.2)
/-- what an array's store takes -/
def tk_ask (ins : Instr) (kd : Nat) (ty : FieldType) (t : Nat) (lo hi : Int) : Bool := match ins with
  | .iastore => Nat.beq kd 1 && decide (ty = .int) && Nat.beq t 1
  | .bastore => Nat.beq kd 1 && Nat.beq t 1 && ((decide (ty = .byte) && decide (-128 ≤ lo ∧ hi ≤ 127)) || (decide (ty = .boolean) && decide (0 ≤ lo ∧ hi ≤ 1)))
  | .sastore => Nat.beq kd 1 && Nat.beq t 1 && decide (ty = .short) && decide (-32768 ≤ lo ∧ hi ≤ 32767)
  | .lastore => Nat.beq kd 2 && Nat.beq t 2
  | _ => false
def tk_stM (E : tk_E) (M : tk_M) (mm : Bool) (t : Nat) (a i : tk_P) (w : tk_V) : tk_M := if mm = true then ((t, a), (1, i), w) :: tk_kl E M (t - 10) i else tk_kl E M (t - 10) i
def tk_ast (KT : Nat → tk_G) (F : List (Nat × Nat × Nat)) (ins : Instr) (E : tk_E) (K : List tk_V) (M : tk_M) : Option (List tk_V × tk_M) := match K with
  | w :: (1, i) :: (t, a) :: K' => if (tk_nm E t a && tk_ask ins (KT (t - 10)).1 (KT (t - 10)).2.2.1 w.1 (tk_lo E w.2) (tk_hi E w.2) && tk_ix E i (KT (t - 10)).2.2.2.1 && tk_ws (KT (t - 10)).2.2.2.2.1 (KT (t - 10)).2.2.2.2.2.1 E w i && tk_iG F (t - 10) (tk_lo E i).toNat (tk_hi E i).toNat) = true then some (K', tk_stM E M (KT (t - 10)).2.2.2.2.2.2.2 t a i w) else none
  | _ => none
def tk_aas (KT : Nat → tk_G) (F : List (Nat × Nat × Nat)) (cn : Nat → FieldType) (E : tk_E) (K : List tk_V) (M : tk_M) : Option (List tk_V × tk_M) := match K with
  | (tw, aw) :: (1, i) :: (t, a) :: K' => if (tk_nm E t a && tk_nm E tw aw && Nat.beq (KT (t - 10)).1 3 && Nat.beq (KT (tw - 10)).1 0 && decide ((KT (t - 10)).2.2.1 = cn (KT (tw - 10)).2.1) && tk_ix E i (KT (t - 10)).2.2.2.1 && tk_ws (KT (t - 10)).2.2.2.2.1 (KT (t - 10)).2.2.2.2.2.1 E (tw, aw) i && tk_iG F (t - 10) (tk_lo E i).toNat (tk_hi E i).toNat) = true then some (K', tk_stM E M (KT (t - 10)).2.2.2.2.2.2.2 t a i (tw, aw)) else none
  | _ => none
theorem tk_t.sub {B : tk_B} {f g : tk_F} {v : Value} (h : kc_sub f g = true) (hv : tk_t B f v) : tk_t B g v := by
  obtain ⟨t, lo, hi⟩ := f
  obtain ⟨t', lo', hi'⟩ := g
  obtain ⟨h1, h2, h3⟩ := of_decide_eq_true h
  dsimp only at h1 h2 h3
  subst h1
  obtain ⟨z, q1, q2, q3⟩ := hv
  dsimp only at q1 q2 q3
  exact ⟨z, by dsimp only; omega, by dsimp only; omega, q3⟩
theorem tk_hl.ok {B : tk_B} {d : tk_F} {fs : List tk_F} {lo hi : Int} {x : Nat} {v : Value} (hf : ∀ f ∈ fs, f.1 = d.1) (h0 : 0 ≤ lo) (h1 : lo ≤ (x : Int)) (h2 : (x : Int) ≤ hi) (hv : tk_t B (fs.getD x d) v) : tk_t B (tk_hl d fs lo hi) v := by
  unfold tk_hl
  split
  · exact hv
  · rename_i g gs
    have all : tk_t B (kc_joins d (g :: gs)) v := by
      rw [List.getD_eq_getElem?_getD] at hv
      cases hq : (g :: gs)[x]? with
      | none => rw [hq] at hv; exact tk_t.sub (kc_joins.base _ _) hv
      | some f => rw [hq] at hv; exact tk_t.sub (kc_joins.mem _ _ f (List.mem_of_getElem? hq) (hf f (List.mem_of_getElem? hq))) hv
    split
    · rename_i hlt
      have hx : x < (g :: gs).length := by omega
      have hm : (((g :: gs).drop lo.toNat).take (hi + 1 - lo).toNat)[x - lo.toNat]? = some (g :: gs)[x] := by
        rw [List.getElem?_take, if_pos (by omega), List.getElem?_drop, show lo.toNat + (x - lo.toNat) = x by omega]
        exact List.getElem?_eq_getElem hx
      have hv2 : tk_t B (g :: gs)[x] v := by
        rw [List.getD_eq_getElem?_getD, List.getElem?_eq_getElem hx] at hv
        exact hv
      have hmem := List.mem_of_getElem? hm
      split
      · rename_i he
        rw [he] at hmem
        cases hmem
      · rename_i f r he
        rw [he] at hmem
        have hsub : ∀ f' ∈ f :: r, f' ∈ g :: gs := fun f' hf' => by
          rw [← he] at hf'
          exact List.mem_of_mem_drop (List.mem_of_mem_take hf')
        rcases List.mem_cons.mp hmem with e1 | e1
        · rw [e1] at hv2
          exact tk_t.sub (kc_joins.base _ _) hv2
        · refine tk_t.sub (kc_joins.mem _ _ _ e1 ?_) hv2
          rw [hf _ (hsub _ (List.mem_cons_of_mem _ e1)), hf _ (hsub _ List.mem_cons_self)]
    · exact all
theorem tk_ix.ok {E : tk_E} {i : tk_P} {N : Nat} {ρ : Nat → Int} {x : Int32} (h : tk_ix E i N = true) (hE : tk_env ρ E) (ex : x.toInt = ρ i.1 + i.2) : vp_in x N ∧ x.toNatClampNeg < N ∧ (x.toNatClampNeg : Int) = ρ i.1 + i.2 ∧ tk_lo E i ≤ (x.toNatClampNeg : Int) ∧ (x.toNatClampNeg : Int) ≤ tk_hi E i ∧ 0 ≤ tk_lo E i := by
  have h1 := hE.at i
  have h2 := of_decide_eq_true h
  have h3 : vp_in x N := vp_in_iff.mpr ⟨by omega, by omega⟩
  have h9 : (x.toNatClampNeg : Int) = x.toInt := Int32.cast_toNatClampNeg x (by
    rw [Int32.le_iff_toInt_le]
    exact (vp_in_iff.mp h3).1)
  exact ⟨h3, Nat.not_le.mp fun q => h3 (Or.inr q), by omega, by omega, by omega, h2.1⟩
theorem tk_ws.ok {ρ : Nat → Int} {B : tk_B} {E : tk_E} {d : tk_F} {fs : List tk_F} {w : tk_V} {i : tk_P} {x : Nat} {v : Value} (hE : tk_env ρ E) (h : tk_ws d fs E w i = true) (hx : (x : Int) = ρ i.1 + i.2) (h0 : 0 ≤ tk_lo E i) (hv : tk_v ρ B w v) : tk_t B (fs.getD x d) v := by
  have hw := hE.at w.2
  have hi := hE.at i
  unfold tk_ws at h
  split at h
  · rw [Bool.and_eq_true] at h
    have h2 := of_decide_eq_true h.2
    refine ⟨ρ w.2.1 + w.2.2, by show d.2.1 ≤ _; omega, by show _ ≤ d.2.2; omega, ?_⟩
    show tk_vn B d.1 _ v
    rw [tk_bq h.1]
    exact hv
  · rename_i g gs
    have h1 := List.all_eq_true.mp h (x - (tk_lo E i).toNat) (List.mem_range.mpr (by omega))
    rw [show (tk_lo E i).toNat + (x - (tk_lo E i).toNat) = x by omega, Bool.and_eq_true] at h1
    obtain ⟨a1, a2⟩ := h1
    have a2 := of_decide_eq_true a2
    obtain ⟨b1, b2⟩ := tk_B2.ok hE w.2.1 i.1
    refine ⟨ρ w.2.1 + w.2.2, by omega, ?_, ?_⟩
    · rcases a2.2 with q | q
      · omega
      · have : tk_lo E i + ((x - (tk_lo E i).toNat : Nat) : Int) = (x : Int) := by omega
        omega
    · rw [tk_bq a1]
      exact hv
theorem tk_iG.ok {F : List (Nat × Nat × Nat)} {κ lo hi i : Nat} (h : tk_iG F κ lo hi = true) (h1 : lo ≤ i) (h2 : i ≤ hi) : tk_iF F κ i = true := by
  obtain ⟨q, g1, g2⟩ := List.any_eq_true.mp h
  rw [Bool.and_eq_true, Bool.and_eq_true] at g2
  refine List.any_eq_true.mpr ⟨q, g1, ?_⟩
  rw [Bool.and_eq_true, Bool.and_eq_true]
  exact ⟨⟨g2.1.1, Nat.ble_eq_true_of_le (Nat.le_trans (Nat.le_of_ble_eq_true g2.1.2) h1)⟩, Nat.ble_eq_true_of_le (Nat.le_trans h2 (Nat.le_of_ble_eq_true g2.2))⟩
/-- the law's script: its length is a symbol -/
def tk_X (s : State) (A : Nat → Prop) (H0 : Heap) (nA : Nat) (ρ0 : Nat → Int) (b : Nat) : Prop := ∃ (Ln : Nat) (xs : Nat → Int32), va_X b Ln xs s H0 ∧ ¬ A b ∧ b < H0.size ∧ Ln ≤ 2147483647 ∧ 1 < nA ∧ ρ0 1 = (Ln : Int)
section TI
variable {p : Program} {l : Launch} {e : Env} {R : Room} {s : State} {m : MethodId} {args : Array Value} {below : List Frame} {meth : Method} {c : Code} {Q : State → Prop}
variable {cc : ByteArray} {nL : Nat} {D : va_G} {cl : List vw_C} {A : Nat → Prop} {H0 : Heap} {KT : Nat → tk_G} {F : List (Nat × Nat × Nat)} {B0 : tk_B} {ws0 : va_W}
variable {nA : Nat} {ρ0 : Nat → Int}
variable {E E' : tk_E} {L K K' : List tk_V} {M M' : tk_M} {cs ss pc : Nat}
set_option maxHeartbeats 4000000 in
theorem tk_ald.ok {ins : Instr} (h : tk_ald KT ins E K M = some (E', K', M')) (hx : p.tables.exec = Jvm.exec) (hb : c.code = cc) (hd : decode cc pc = .ok (ins, 1))
    (k : tk_J p l e R s m args below meth c Q D cl A H0 KT F B0 ws0 nL nA ρ0 (pc + 1) (E', L, K', M', cs, ss)) : tk_J p l e R s m args below meth c Q D cl A H0 KT F B0 ws0 nL nA ρ0 pc (E, L, K, M, cs, ss) := by
  intro ρ B ws tys H locs ls lv st hk hg
  have hE : tk_env ρ E := hk.1
  have h0 : 0 < E.length ∧ ρ 0 = 0 := hk.2.1
  have hst : tk_stk ρ B E.length K st := hk.2.2.2.2.1
  have hM : tk_mem ρ B E.length ws M := hk.2.2.2.2.2.1
  have hg : tk_ag nA ρ0 E.length ρ := hg
  obtain ⟨hK, hPw, hD, hS, hC, hFr, hLe, hBl⟩ := hk.2.2.2.2.2.2
  unfold tk_ald at h
  split at h
  · rename_i i t a K2
    split at h
    · rename_i hc
      rw [Bool.and_eq_true, Bool.and_eq_true] at hc
      obtain ⟨⟨c1, c2⟩, c3⟩ := hc
      obtain ⟨vi, st1, rfl, hlti, ⟨x, rfl, exi⟩, hst1⟩ := tk_stk.uncons hst
      obtain ⟨v, st', rfl, hlt, hv, hst'⟩ := tk_stk.uncons hst1
      obtain ⟨ht, j, ad, rfl, hB, hz⟩ := tk_nm.ok hE c1 hv
      obtain ⟨e0, w1, w3⟩ := hC.2 _ _ _ hB
      obtain ⟨i1, i2, i3, i4, i5, i6⟩ := tk_ix.ok c3 hE exi
      dsimp only at hlti i3
      have go : ∀ v1 : Value, tk_pl e0 x.toNatClampNeg = some v1 → tk_t B ((KT (t - 10)).2.2.2.2.2.1.getD x.toNatClampNeg (KT (t - 10)).2.2.2.2.1) v1 → W p l e R s m args below meth c H locs cs ss Q (F0 m (pc + 1) ls (v1 :: st')) := fun v1 hp1 ht1 => by
        split at h
        · rename_i v2 hmf
          cases h
          obtain ⟨f, f1, f2, f3, f4⟩ := tk_mf.ok hE hmf
          obtain ⟨⟨-, -, g3⟩, g4⟩ := hM f f1
          rw [f2, f3, f4] at g4
          rw [f4] at g3
          obtain ⟨-, w, hw1, hw2⟩ := g4.pl hz w1
          dsimp only at hw1
          rw [← i3, Int.toNat_natCast, hp1] at hw1
          cases hw1
          exact tk_J.go k hk hg ⟨g3, hw2, hst'⟩
        · split at h
          · rename_i hall
            cases h
            have hty : ∀ f ∈ (KT (t - 10)).2.2.2.2.2.1, f.1 = (KT (t - 10)).2.2.2.2.1.1 := fun f hf => tk_bq (List.all_eq_true.mp hall f hf)
            have ht2 := tk_hl.ok hty i6 i4 i5 ht1
            obtain ⟨z0, q1, q2, q3⟩ := ht2
            obtain ⟨ρ', g1, g3, g4, g5, g6⟩ := tk_mk.ok hE h0 q1 q2
            refine tk_J.mv k hk hg g1 g3 g4 (hk.2.2.1.ext g1 (tk_le.rf B) g4) hk.2.2.2.1 ⟨g5, ?_, tk_stk.ext g1 (tk_le.rf B) g4 hst'⟩ ?_
            · unfold tk_v
              dsimp only
              rw [g6]
              exact q3
            · split
              · refine tk_mem.cons ⟨⟨Nat.lt_of_lt_of_le hlt g4, Nat.lt_of_lt_of_le hlti g4, g5⟩, j, ad, _, v1, ht, hB, ?_, w1, ?_, ?_, ?_⟩ (hM.ext g1 g4)
                · dsimp only
                  rw [g1 _ hlt]
                  exact hz
                · dsimp only
                  rw [g1 _ hlti, ← i3]
                  omega
                · dsimp only
                  rw [g1 _ hlti, ← i3, Int.toNat_natCast]
                  exact hp1
                · dsimp only
                  rw [g6]
                  exact q3
              · exact hM.ext g1 g4
          · cases h
      unfold kc_alk at c2
      unfold tk_e at w3
      split at c2
      · obtain ⟨d1, d2⟩ := of_decide_eq_true c2
        rw [d1, d2] at w3
        obtain ⟨cA, t0, h2, rfl, w4, w7⟩ := w3
        exact va_iald hx hb hK hPw j t0 w1 w4 i1 hd (go _ (by unfold tk_pl; dsimp only; rw [if_pos i2]) (w7 _ i2))
      · obtain ⟨d1, d2⟩ := of_decide_eq_true c2
        rw [d1] at w3
        obtain ⟨cA, t0, h2, rfl, w4, w7⟩ := w3
        rcases d2 with d2 | d2
        · rw [d2] at w4
          exact va_bald hx hb hK hPw j t0 w1 w4 i1 hd (go _ (by unfold tk_pl; dsimp only; rw [if_pos i2]) (w7 _ i2))
        · rw [d2] at w4
          exact va_zald hx hb hK hPw j t0 w1 w4 i1 hd (go _ (by unfold tk_pl; dsimp only; rw [if_pos i2]) (w7 _ i2))
      · obtain ⟨d1, d2⟩ := of_decide_eq_true c2
        rw [d1, d2] at w3
        obtain ⟨cA, t0, h2, rfl, w4, w7⟩ := w3
        exact va_sald hx hb hK hPw j t0 w1 w4 i1 hd (go _ (by unfold tk_pl; dsimp only; rw [if_pos i2]) (w7 _ i2))
      · have d1 := of_decide_eq_true c2
        rw [d1] at w3
        obtain ⟨cA, t0, h2, rfl, w4, w7⟩ := w3
        exact va_lald hx hb hK hPw j t0 w1 w4 i1 hd (go _ (by unfold tk_pl; dsimp only; rw [if_pos i2]) (w7 _ i2))
      · obtain ⟨d1, d2⟩ := of_decide_eq_true c2
        rw [d1] at w3
        obtain ⟨cA, t0, h2, rfl, w4, w7⟩ := w3
        exact W.aald (v := va_rf (h2 x.toNatClampNeg)) (ty := (KT (t - 10)).2.2.1) hx hb (hPw j _ w1) ((hK.2 t0 _ w4).1 _ (fun j => va_rf (h2 j))) d2 (fun q => by cases q) (by show ¬ (x < 0 ∨ (arrV _ _ _).slots.size ≤ _); rw [arrV_size]; exact i1) (by show (arrV _ _ _).slots[_]? = _; rw [arrV_read _ _ i2]) rfl rfl hd (go _ (by unfold tk_pl; dsimp only; rw [if_pos i2]) (w7 _ i2))
      · cases c2
    · cases h
  · cases h
set_option maxHeartbeats 4000000 in
theorem tk_aln.ok {sc : Bool} (h : tk_aln sc KT E K = some K') (hx : p.tables.exec = Jvm.exec) (hb : c.code = cc) (hd : decode cc pc = .ok (.arraylength, 1)) (hX : sc = true → tk_X s A H0 nA ρ0 B0.1)
    (k : tk_J p l e R s m args below meth c Q D cl A H0 KT F B0 ws0 nL nA ρ0 (pc + 1) (E, L, K', M, cs, ss)) : tk_J p l e R s m args below meth c Q D cl A H0 KT F B0 ws0 nL nA ρ0 pc (E, L, K, M, cs, ss) := by
  intro ρ B ws tys H locs ls lv st hk hg
  have hE : tk_env ρ E := hk.1
  have h0 : 0 < E.length ∧ ρ 0 = 0 := hk.2.1
  have hst : tk_stk ρ B E.length K st := hk.2.2.2.2.1
  have hg : tk_ag nA ρ0 E.length ρ := hg
  obtain ⟨hK, hPw, hD, hS, hC, hFr, hLe, hBl⟩ := hk.2.2.2.2.2.2
  unfold tk_aln at h
  split at h
  · split at h
    · rename_i hsc
      cases h
      obtain ⟨Ln, xs, x1, x2, x3, x4, x5, x6⟩ := hX hsc
      obtain ⟨v, st', rfl, hlt, hv, hst'⟩ := tk_stk.uncons hst
      have hv : v = .ref B.1 := hv
      rw [hLe.1] at hv
      subst hv
      refine va_slen hx hb x1 x3 x2 hS hd (tk_J.old k hk hg hst' (Nat.lt_of_lt_of_le x5 hg.1) ⟨_, rfl, ?_⟩)
      dsimp only
      rw [hg.2 1 x5, x6, kc_nat32 x4]
      omega
    · cases h
  · rename_i t a K2 _
    split at h
    · rename_i hc
      cases h
      rw [Bool.and_eq_true, Bool.and_eq_true] at hc
      obtain ⟨⟨c1, c2⟩, c3⟩ := hc
      obtain ⟨v, st', rfl, hlt, hv, hst'⟩ := tk_stk.uncons hst
      obtain ⟨ht, j, ad, rfl, hB, hz⟩ := tk_nm.ok hE c1 hv
      obtain ⟨e0, w1, w3⟩ := hC.2 _ _ _ hB
      have c3 := Nat.le_of_ble_eq_true c3
      have go : W p l e R s m args below meth c H locs cs ss Q (F0 m (pc + 1) ls (.int (Int32.ofNat (KT (t - 10)).2.2.2.1) :: st')) := tk_J.old k hk hg hst' h0.1 ⟨_, rfl, by dsimp only; rw [kc_nat32 c3]; omega⟩
      unfold tk_e at w3
      split at w3
      · rename_i hq
        rw [hq] at c2
        cases c2
      · obtain ⟨cA, t0, h2, rfl, w4, w7⟩ := w3
        exact va_alen hx hb hK hPw j t0 w1 w4 rfl hd go
      · obtain ⟨cA, t0, h2, rfl, w4, w7⟩ := w3
        exact va_alen hx hb hK hPw j t0 w1 w4 rfl hd go
      · obtain ⟨cA, t0, h2, rfl, w4, w7⟩ := w3
        exact va_alen hx hb hK hPw j t0 w1 w4 rfl hd go
      · exact absurd w3 id
    · cases h
  · cases h
/-- one place of an array written -/
theorem tk_J.st {ρ : Nat → Int} {B : tk_B} {ws : va_W} {tys : List (ClassId × FieldType)} {H H1 : Heap} {locs locs1 : List Loc} {ls : Array Slot} {lv : List (Nat × Value)} {st st' : List Value} {t j ad x : Nat} {a i : tk_P} {w : tk_V} {v : Value} {e0 e' : va_E}
    (k : tk_J p l e R s m args below meth c Q D cl A H0 KT F B0 ws0 nL nA ρ0 pc (E, L, K', tk_stM E M (KT (t - 10)).2.2.2.2.2.2.2 t a i w, cs, ss)) (hk : tk_ok D cl A s H0 KT F B0 ws0 nL (E, L, K, M, cs, ss) ρ B ws tys H locs ls lv st) (hg : tk_ag nA ρ0 E.length ρ) (hst' : tk_stk ρ B E.length K' st')
    (ht : 10 ≤ t) (hlt : a.1 < E.length) (hlti : i.1 < E.length) (hltw : w.2.1 < E.length) (hv : tk_v ρ B w v) (hB : B.2.2[j]? = some (ad, t - 10)) (hz : ρ a.1 + a.2 = (j : Int) + 1) (w1 : ws[j]? = some (ad, e0)) (hx : (x : Int) = ρ i.1 + i.2) (hF : tk_iF F (t - 10) x = true) (hp : tk_pl e' x = some v) (hch : ∀ q, q ≠ x → tk_pl e' q = tk_pl e0 q)
    (u0 : tk_e tys B (KT (t - 10)) e') (u1 : va_P D cl (ws.set j (ad, e')) H1) (u2 : va_D A (ws.set j (ad, e'))) (u3 : va_S A H0 H1 locs1) : W p l e R s m args below meth c H1 locs1 cs ss Q (F0 m pc ls st') := by
  obtain ⟨hE, h0, hL, hl, hst, hM, hK, hPw, hD, hS, hC, hFr, hLe, hBl⟩ := hk
  have hkl : tk_mem ρ B E.length (ws.set j (ad, e')) (tk_kl E M (t - 10) i) := tk_kl.ok hE hM hB w1 (by omega) (fun q hq => hch q (by omega))
  refine k ρ B _ tys H1 locs1 ls lv st' ⟨hE, h0, hL, hl, hst', ?_, hK, u1, u2, u3, hC.set hB u0, hFr.set (P := fun q => q = x) hLe hB w1 (fun q hq => by rw [hq]; exact hF) (fun q hq => hch q hq), hLe, hBl⟩ hg
  show tk_mem ρ B E.length _ (tk_stM E M _ t a i w)
  unfold tk_stM
  split
  · refine tk_mem.cons ⟨⟨hlt, hlti, hltw⟩, j, ad, e', v, ht, hB, hz, by rw [List.getElem?_set_self (List.getElem?_eq_some_iff.mp w1).1], by dsimp only; omega, ?_, hv⟩ hkl
    dsimp only
    rw [← hx, Int.toNat_natCast]
    exact hp
  · exact hkl
theorem tk_ask.of {ins : Instr} {kd t : Nat} {ty : FieldType} {lo hi : Int} (h : tk_ask ins kd ty t lo hi = true) : (ins = .iastore ∧ kd = 1 ∧ ty = .int ∧ t = 1) ∨ (ins = .bastore ∧ kd = 1 ∧ t = 1 ∧ ty = .byte ∧ -128 ≤ lo ∧ hi ≤ 127) ∨ (ins = .bastore ∧ kd = 1 ∧ t = 1 ∧ ty = .boolean ∧ 0 ≤ lo ∧ hi ≤ 1) ∨ (ins = .sastore ∧ kd = 1 ∧ t = 1 ∧ ty = .short ∧ -32768 ≤ lo ∧ hi ≤ 32767) ∨ (ins = .lastore ∧ kd = 2 ∧ t = 2) := by
  unfold tk_ask at h
  split at h
  · simp only [Bool.and_eq_true, decide_eq_true_eq] at h
    exact Or.inl ⟨rfl, tk_bq h.1.1, h.1.2, tk_bq h.2⟩
  · simp only [Bool.and_eq_true, Bool.or_eq_true, decide_eq_true_eq] at h
    rcases h.2 with q | q
    · exact Or.inr (Or.inl ⟨rfl, tk_bq h.1.1, tk_bq h.1.2, q.1, q.2.1, q.2.2⟩)
    · exact Or.inr (Or.inr (Or.inl ⟨rfl, tk_bq h.1.1, tk_bq h.1.2, q.1, q.2.1, q.2.2⟩))
  · simp only [Bool.and_eq_true, decide_eq_true_eq] at h
    exact Or.inr (Or.inr (Or.inr (Or.inl ⟨rfl, tk_bq h.1.1.1, tk_bq h.1.1.2, h.1.2, h.2.1, h.2.2⟩)))
  · simp only [Bool.and_eq_true] at h
    exact Or.inr (Or.inr (Or.inr (Or.inr ⟨rfl, tk_bq h.1, tk_bq h.2⟩)))
  · cases h
set_option maxHeartbeats 4000000 in
theorem tk_ast.ok {ins : Instr} (h : tk_ast KT F ins E K M = some (K', M')) (hx : p.tables.exec = Jvm.exec) (hb : c.code = cc) (hd : decode cc pc = .ok (ins, 1))
    (k : tk_J p l e R s m args below meth c Q D cl A H0 KT F B0 ws0 nL nA ρ0 (pc + 1) (E, L, K', M', cs, ss)) : tk_J p l e R s m args below meth c Q D cl A H0 KT F B0 ws0 nL nA ρ0 pc (E, L, K, M, cs, ss) := by
  intro ρ B ws tys H locs ls lv st hk hg
  have hE : tk_env ρ E := hk.1
  have hst : tk_stk ρ B E.length K st := hk.2.2.2.2.1
  have hg : tk_ag nA ρ0 E.length ρ := hg
  obtain ⟨hK, hPw, hD, hS, hC, hFr, hLe, hBl⟩ := hk.2.2.2.2.2.2
  unfold tk_ast at h
  split at h
  · rename_i w i t a K2
    split at h
    · rename_i hc
      cases h
      simp only [Bool.and_eq_true] at hc
      obtain ⟨⟨⟨⟨c1, c2⟩, c3⟩, c4⟩, c5⟩ := hc
      obtain ⟨va, st0, rfl, hlta, hva, hst0⟩ := tk_stk.uncons hst
      obtain ⟨vi, st1, rfl, hlti, ⟨x, rfl, exi⟩, hst1⟩ := tk_stk.uncons hst0
      obtain ⟨v, st', rfl, hlt, hv, hst'⟩ := tk_stk.uncons hst1
      obtain ⟨ht, j, ad, rfl, hB, hz⟩ := tk_nm.ok hE c1 hv
      obtain ⟨e0, w1, w3⟩ := hC.2 _ _ _ hB
      obtain ⟨i1, i2, i3, i4, i5, i6⟩ := tk_ix.ok c3 hE exi
      have htw := tk_ws.ok hE c4 i3 i6 hva
      have hF := tk_iG.ok (i := x.toNatClampNeg) c5 (by omega) (by omega)
      have hbw := hE.at w.2
      obtain ⟨tw, aw⟩ := w
      dsimp only at c2 hbw hlta hlti hlt
      rcases tk_ask.of c2 with ⟨rfl, d1, d2, rfl⟩ | ⟨rfl, d1, rfl, d2, d3, d4⟩ | ⟨rfl, d1, rfl, d2, d3, d4⟩ | ⟨rfl, d1, rfl, d2, d3, d4⟩ | ⟨rfl, d1, rfl⟩
      · have w3' := w3
        unfold tk_e at w3'
        rw [d1] at w3'
        obtain ⟨cA, t0, h2, rfl, w4, w7⟩ := w3'
        rw [d2] at w4
        obtain ⟨y, rfl, ey⟩ := id hva
        refine va_iast hx hb hK hPw hD hS j t0 w1 w4 i1 hd (fun H1 locs1 u1 u2 u3 => tk_J.st k hk hg hst' ht hlt hlti hlta hva hB hz w1 i3 hF (by unfold tk_pl; dsimp only; rw [if_pos i2, kc_upd_eq]) (fun q hq => by unfold tk_pl; dsimp only; rw [kc_upd_ne hq]) ?_ u1 u2 u3)
        unfold tk_e
        rw [d1]
        refine ⟨cA, t0, _, rfl, by rw [d2]; exact w4, fun q hq => ?_⟩
        by_cases e1 : q = x.toNatClampNeg
        · subst e1
          rw [kc_upd_eq]
          exact htw
        · rw [kc_upd_ne e1]
          exact w7 q hq
      · have w3' := w3
        unfold tk_e at w3'
        rw [d1] at w3'
        obtain ⟨cA, t0, h2, rfl, w4, w7⟩ := w3'
        rw [d2] at w4
        obtain ⟨y, rfl, ey⟩ := id hva
        dsimp only at ey
        have hy := kc_narb (x := y) (by omega) (by omega)
        refine va_bast hx hb hK hPw hD hS j t0 w1 w4 i1 hd (fun H1 locs1 u1 u2 u3 => tk_J.st k hk hg hst' ht hlt hlti hlta hva hB hz w1 i3 hF (by unfold tk_pl; dsimp only; rw [if_pos i2, kc_upd_eq, hy]) (fun q hq => by unfold tk_pl; dsimp only; rw [kc_upd_ne hq]) ?_ u1 u2 u3)
        unfold tk_e
        rw [d1]
        refine ⟨cA, t0, _, rfl, by rw [d2]; exact w4, fun q hq => ?_⟩
        by_cases e1 : q = x.toNatClampNeg
        · subst e1
          rw [kc_upd_eq, hy]
          exact htw
        · rw [kc_upd_ne e1]
          exact w7 q hq
      · have w3' := w3
        unfold tk_e at w3'
        rw [d1] at w3'
        obtain ⟨cA, t0, h2, rfl, w4, w7⟩ := w3'
        rw [d2] at w4
        obtain ⟨y, rfl, ey⟩ := id hva
        dsimp only at ey
        have hy := kc_narz (x := y) (by omega) (by omega)
        refine va_zast hx hb hK hPw hD hS j t0 w1 w4 i1 hd (fun H1 locs1 u1 u2 u3 => tk_J.st k hk hg hst' ht hlt hlti hlta hva hB hz w1 i3 hF (by unfold tk_pl; dsimp only; rw [if_pos i2, kc_upd_eq, hy]) (fun q hq => by unfold tk_pl; dsimp only; rw [kc_upd_ne hq]) ?_ u1 u2 u3)
        unfold tk_e
        rw [d1]
        refine ⟨cA, t0, _, rfl, by rw [d2]; exact w4, fun q hq => ?_⟩
        by_cases e1 : q = x.toNatClampNeg
        · subst e1
          rw [kc_upd_eq, hy]
          exact htw
        · rw [kc_upd_ne e1]
          exact w7 q hq
      · have w3' := w3
        unfold tk_e at w3'
        rw [d1] at w3'
        obtain ⟨cA, t0, h2, rfl, w4, w7⟩ := w3'
        rw [d2] at w4
        obtain ⟨y, rfl, ey⟩ := id hva
        dsimp only at ey
        have hy := kc_nars (x := y) (by omega) (by omega)
        refine va_sast hx hb hK hPw hD hS j t0 w1 w4 i1 hd (fun H1 locs1 u1 u2 u3 => tk_J.st k hk hg hst' ht hlt hlti hlta hva hB hz w1 i3 hF (by unfold tk_pl; dsimp only; rw [if_pos i2, kc_upd_eq, hy]) (fun q hq => by unfold tk_pl; dsimp only; rw [kc_upd_ne hq]) ?_ u1 u2 u3)
        unfold tk_e
        rw [d1]
        refine ⟨cA, t0, _, rfl, by rw [d2]; exact w4, fun q hq => ?_⟩
        by_cases e1 : q = x.toNatClampNeg
        · subst e1
          rw [kc_upd_eq, hy]
          exact htw
        · rw [kc_upd_ne e1]
          exact w7 q hq
      · have w3' := w3
        unfold tk_e at w3'
        rw [d1] at w3'
        obtain ⟨cA, t0, h2, rfl, w4, w7⟩ := w3'
        obtain ⟨y, rfl, ey⟩ := id hva
        refine va_last hx hb hK hPw hD hS j t0 w1 w4 i1 hd (fun H1 locs1 u1 u2 u3 => tk_J.st k hk hg hst' ht hlt hlti hlta hva hB hz w1 i3 hF (by unfold tk_pl; dsimp only; rw [if_pos i2, pk_uLs]) (fun q hq => by unfold tk_pl; dsimp only; rw [pk_uLn hq]) ?_ u1 u2 u3)
        unfold tk_e
        rw [d1]
        refine ⟨cA, t0, _, rfl, w4, fun q hq => ?_⟩
        by_cases e1 : q = x.toNatClampNeg
        · subst e1
          rw [pk_uLs]
          exact htw
        · rw [pk_uLn e1]
          exact w7 q hq
    · cases h
  · cases h
set_option maxHeartbeats 4000000 in
theorem tk_aas.ok {cn : Nat → FieldType} (h : tk_aas KT F cn E K M = some (K', M')) (hx : p.tables.exec = Jvm.exec) (hb : c.code = cc) (hcn : ∀ (ci : Nat) (z : vw_C), cl[ci]? = some z → cn ci = .object z.1) (hd : decode cc pc = .ok (.aastore, 1))
    (k : tk_J p l e R s m args below meth c Q D cl A H0 KT F B0 ws0 nL nA ρ0 (pc + 1) (E, L, K', M', cs, ss)) : tk_J p l e R s m args below meth c Q D cl A H0 KT F B0 ws0 nL nA ρ0 pc (E, L, K, M, cs, ss) := by
  intro ρ B ws tys H locs ls lv st hk hg
  have hE : tk_env ρ E := hk.1
  have hst : tk_stk ρ B E.length K st := hk.2.2.2.2.1
  have hg : tk_ag nA ρ0 E.length ρ := hg
  obtain ⟨hK, hPw, hD, hS, hC, hFr, hLe, hBl⟩ := hk.2.2.2.2.2.2
  unfold tk_aas at h
  split at h
  · rename_i tw aw i t a K2
    split at h
    · rename_i hc
      cases h
      simp only [Bool.and_eq_true] at hc
      obtain ⟨⟨⟨⟨⟨⟨⟨c1, c2⟩, c3⟩, c4⟩, c5⟩, c6⟩, c7⟩, c8⟩ := hc
      have c5 := of_decide_eq_true c5
      obtain ⟨va, st0, rfl, hlta, hva, hst0⟩ := tk_stk.uncons hst
      obtain ⟨vi, st1, rfl, hlti, ⟨x, rfl, exi⟩, hst1⟩ := tk_stk.uncons hst0
      obtain ⟨v, st', rfl, hlt, hv, hst'⟩ := tk_stk.uncons hst1
      obtain ⟨ht, j, ad, rfl, hB, hz⟩ := tk_nm.ok hE c1 hv
      obtain ⟨htw, j2, ad2, rfl, hB2, hz2⟩ := tk_nm.ok hE c2 hva
      obtain ⟨e0, w1, w3⟩ := hC.2 _ _ _ hB
      obtain ⟨e2, v1, v3⟩ := hC.2 _ _ _ hB2
      obtain ⟨fs2, rfl, -⟩ := v3.obj (tk_bq c4)
      have hz0 : ∃ z : vw_C, cl[(KT (tw - 10)).2.1]? = some z ∧ _ := hPw _ _ v1
      obtain ⟨z, hzz, -⟩ := hz0
      have hcz := hcn _ _ hzz
      obtain ⟨i1, i2, i3, i4, i5, i6⟩ := tk_ix.ok c6 hE exi
      have hw := tk_ws.ok hE c7 i3 i6 hva
      have hF := tk_iG.ok (i := x.toNatClampNeg) c8 (by omega) (by omega)
      have w3' := w3
      unfold tk_e at w3'
      rw [tk_bq c3] at w3'
      obtain ⟨cA, t0, h2, rfl, w4, w7⟩ := w3'
      rw [c5, hcz] at w4
      refine va_astq hx hb hK hPw hD hS j t0 j2 _ w1 w4 v1 hzz i1 hd (fun H1 locs1 u1 u2 u3 => tk_J.st k hk hg hst' ht hlt hlti hlta hva hB hz w1 i3 hF (by unfold tk_pl; dsimp only; rw [if_pos i2, va_up_self]; rfl) (fun q hq => by unfold tk_pl; dsimp only; rw [va_up_ne _ _ hq]) ?_ u1 u2 u3)
      unfold tk_e
      rw [tk_bq c3]
      refine ⟨cA, t0, _, rfl, by rw [c5, hcz]; exact w4, fun q hq => ?_⟩
      by_cases e1 : q = x.toNatClampNeg
      · subst e1
        rw [va_up_self]
        exact hw
      · rw [va_up_ne _ _ e1]
        exact w7 q hq
    · cases h
  · cases h
theorem tk_sld.ok {sc : Bool} (h : tk_sld sc E K = some (E', K')) (hx : p.tables.exec = Jvm.exec) (hb : c.code = cc) (hd : decode cc pc = .ok (.iaload, 1)) (hX : sc = true → tk_X s A H0 nA ρ0 B0.1)
    (k : tk_J p l e R s m args below meth c Q D cl A H0 KT F B0 ws0 nL nA ρ0 (pc + 1) (E', L, K', M, cs, ss)) : tk_J p l e R s m args below meth c Q D cl A H0 KT F B0 ws0 nL nA ρ0 pc (E, L, K, M, cs, ss) := by
  intro ρ B ws tys H locs ls lv st hk hg
  have hE : tk_env ρ E := hk.1
  have h0 : 0 < E.length ∧ ρ 0 = 0 := hk.2.1
  have hst : tk_stk ρ B E.length K st := hk.2.2.2.2.1
  have hg : tk_ag nA ρ0 E.length ρ := hg
  obtain ⟨hK, hPw, hD, hS, hC, hFr, hLe, hBl⟩ := hk.2.2.2.2.2.2
  unfold tk_sld at h
  split at h
  · rename_i i d K2
    split at h
    · rename_i hc
      cases h
      obtain ⟨Ln, xs, x1, x2, x3, x4, x5, x6⟩ := hX hc.1
      obtain ⟨vi, st1, rfl, hlti, ⟨x, rfl, exi⟩, hst1⟩ := tk_stk.uncons hst
      obtain ⟨v, st', rfl, hlt, hv, hst'⟩ := tk_stk.uncons hst1
      have hv : v = .ref B.1 := hv
      rw [hLe.1] at hv
      subst hv
      have hb1 := hE.at i
      obtain ⟨-, b2⟩ := tk_B2.ok hE i.1 1
      have hr1 := hg.2 1 x5
      dsimp only at exi
      have hin : vp_in x Ln := vp_in_iff.mpr ⟨by omega, by omega⟩
      exact va_sld hx hb x1 x3 x2 hS hin hd (tk_J.res k hk hg hst' (tk_any.ok hE h0 (tk_R1 _)) ⟨_, rfl, rfl⟩)
    · cases h
  · cases h
end TI
