def ka_rda (E : ka_E) (pd : List (Nat × List Nat)) (av : List Nat) (r : Nat) : Bool := !(av.contains r) && pd.all (fun q => q.2.isEmpty || decide ((E.getD q.1 (0, 0)).2 < (r : Int) + 1) || decide ((r : Int) + 1 < (E.getD q.1 (0, 0)).1))
theorem ka_rda.ok {E : ka_E} {pd : List (Nat × List Nat)} {av : List Nat} {r b : Nat} {ρ : Nat → Int} {α : Nat → Nat} {Γ : Nat → Option Nat} {P : Nat → Nat → Prop} (h : ka_rda E pd av r = true) (hE : ka_env ρ E) (hq : ka_pd ρ α Γ E.length pd) (hP : ka_P α Γ av pd P) (hb : Γ b = some r) (j : Nat) : ¬ P b j := by
  intro hp
  unfold ka_rda at h
  rw [Bool.and_eq_true] at h
  rcases hP b j hp with ⟨q, g1, g2, g3⟩ | ⟨r', g1, g2⟩
  · have h1 := List.all_eq_true.mp h.2 q g1
    obtain ⟨-, r', k1, k2⟩ := hq q g1
    rw [g2, hb] at k1
    cases k1
    have h2 := hE q.1
    have h3 : q.2.isEmpty = false := by
      cases hz : q.2 with
      | nil => rw [hz] at g3; cases g3
      | cons _ _ => rfl
    rw [h3] at h1
    simp only [Bool.false_or, Bool.or_eq_true, decide_eq_true_eq] at h1
    omega
  · rw [hb] at g1
    cases g1
    have : av.contains r = true := by simp [g2]
    rw [this] at h
    simp at h
def ka_ix (E : ka_E) (i : ka_V) (n : Nat) : Bool := decide (0 ≤ ka_lo E i ∧ ka_hi E i < (n : Int))
theorem ka_ix.ok {E : ka_E} {i : ka_V} {n N : Nat} {ρ : Nat → Int} {x : Int32} (h : ka_ix E i n = true) (hE : ka_env ρ E) (ex : x.toInt = ρ i.2.1 + i.2.2) (hN : n ≤ N) : vp_in x N ∧ x.toNatClampNeg < N := by
  have h1 := hE.at i
  have h2 := of_decide_eq_true h
  have h3 : vp_in x N := vp_in_iff.mpr ⟨by omega, by omega⟩
  exact ⟨h3, Nat.not_le.mp fun q => h3 (Or.inr q)⟩
/-- a component read -/
def ka_alk (ins : Instr) (kd : Nat) (ty : FieldType) : Bool := match ins with
  | .iaload => decide (kd = 1 ∧ ty = .int)
  | .baload => decide (kd = 1 ∧ (ty = .byte ∨ ty = .boolean))
  | .saload => decide (kd = 1 ∧ ty = .short)
  | .laload => decide (kd = 2)
  | .aaload => decide (kd = 3 ∧ ty.isReference = true)
  | _ => false
def ka_ald (RT : List ka_R) (av : List Nat) (ins : Instr) (E : ka_E) (K : List ka_V) (pd : List (Nat × List Nat)) : Option (ka_E × List ka_V) := match K with
  | (1, ni, di) :: (3, n, d) :: K' => match ka_knd RT E (3, n, d) with
    | some (r, g) => match g.2.2.2.1[0]? with
      | some f => if (ka_alk ins g.1 g.2.2.1 && ka_ix E (1, ni, di) g.2.2.2.2.1 && (decide (g.1 ≠ 3) || ka_rda E pd av r) && decide (f.1 = g.1)) = true then some (E ++ [(f.2.1, f.2.2)], (f.1, E.length, 0) :: K') else none
      | none => none
    | none => none
  | _ => none
/-- a length -/
def ka_aln (RT : List ka_R) (E : ka_E) (K : List ka_V) : Option (ka_E × List ka_V) := match K with
  | (3, n, d) :: K' => match ka_knd RT E (3, n, d) with
    | some (_, g) => if g.1 ≠ 0 ∧ g.2.2.2.2.2 ≤ 2147483647 then some ((ka_mk E 1 g.2.2.2.2.1 g.2.2.2.2.2).1, (ka_mk E 1 g.2.2.2.2.1 g.2.2.2.2.2).2 :: K') else none
    | none => none
  | _ => none
section KI
variable {p : Program} {l : Launch} {e : Env} {R : Room} {s : State} {m : MethodId} {args : Array Value} {below : List Frame} {meth : Method} {c : Code} {Q : State → Prop}
variable {cc : ByteArray} {nL : Nat} {D : va_G} {cl : List vw_C} {A : Nat → Prop} {RT : List ka_R} {av : List Nat} {H0 : Heap}
variable {Γ0 : Nat → Option Nat} {nA : Nat} {ρ0 : Nat → Int} {α0 : Nat → Nat}
variable {E E' : ka_E} {L K K' : List ka_V} {pd pd' : List (Nat × List Nat)} {cs ss pc : Nat}
theorem ka_rdI {Γ : Nat → Option Nat} {lo hi : Int} {x : Int32} (h1 : lo ≤ x.toInt) (h2 : x.toInt ≤ hi) : ka_t Γ (1, lo, hi) (.int x) := ⟨x, rfl, h1, h2⟩
theorem ka_rdL {Γ : Nat → Option Nat} {lo hi : Int} {x : Int64} (h1 : lo ≤ x.toInt) (h2 : x.toInt ≤ hi) : ka_t Γ (2, lo, hi) (.long x) := ⟨x, rfl, h1, h2⟩
set_option maxHeartbeats 4000000 in
theorem ka_ald.ok {ins : Instr} (h : ka_ald RT av ins E K pd = some (E', K')) (hx : p.tables.exec = Jvm.exec) (hb : c.code = cc) (hd : decode cc pc = .ok (ins, 1))
    (k : ka_J p l e R s m args below meth c Q D cl A RT H0 av nL Γ0 nA ρ0 α0 (pc + 1) (E', L, K', pd, cs, ss)) : ka_J p l e R s m args below meth c Q D cl A RT H0 av nL Γ0 nA ρ0 α0 pc (E, L, K, pd, cs, ss) := by
  intro ρ α Γ P ws tys H locs ls lv st hk hn hΓ hρ
  have hE : ka_env ρ E := hk.1
  have hst : ka_stk ρ α Γ E.length K st := hk.2.2.2.2.1
  have hq := hk.2.2.2.2.2.1
  have hP := hk.2.2.2.2.2.2.1
  obtain ⟨hK, hPw, hD, hS, hT⟩ := hk.2.2.2.2.2.2.2
  unfold ka_ald at h
  split at h
  · rename_i ni di n d K2
    split at h
    · rename_i r g e1
      split at h
      · rename_i f hf
        split at h
        · rename_i hc
          simp only [Bool.and_eq_true] at hc
          obtain ⟨⟨⟨c1, c2⟩, c3⟩, c4⟩ := hc
          have c4 := of_decide_eq_true c4
          cases h
          obtain ⟨vi, st1, rfl, hlti, ⟨x, rfl, exi⟩, hst1⟩ := ka_stk.uncons hst
          obtain ⟨v, st', rfl, hlt, hv, hst'⟩ := ka_stk.uncons hst1
          obtain ⟨rfl, hΓ1, hR1, -⟩ := ka_knd.ok e1 hE hv
          obtain ⟨k0, e0, w1, g', w2, w3⟩ := hT _ _ hΓ1
          rw [hR1] at w2
          cases w2
          obtain ⟨g1, ci, fty, fts, lo, hi⟩ := g
          obtain ⟨ft, flo, fhi⟩ := f
          dsimp only at c1 c2 c3 c4 hf w3 ⊢
          subst c4
          have go : ∀ v1 : Value, ka_t Γ (ft, flo, fhi) v1 → W p l e R s m args below meth c H locs cs ss Q (F0 m (pc + 1) ls (v1 :: st')) := fun v1 h9 => by
            obtain ⟨zz, bb, y1, y2, y3⟩ := h9.read
            exact ka_J.res k hk hn hΓ hρ hst' (ka_r.new bb hE y1 y2 y3)
          unfold ka_alk at c1
          split at c1
          · obtain ⟨rfl, rfl⟩ := of_decide_eq_true c1
            obtain ⟨cA, N, t0, h2, rfl, w4, w5, w6, w7⟩ := w3
            obtain ⟨i1, i2⟩ := ka_ix.ok c2 hE exi w5
            have w8 := w7 _ hf _ i2
            exact va_iald hx hb hK hPw k0 t0 w1 w4 i1 hd (go _ (ka_rdI w8.1 w8.2))
          · obtain ⟨rfl, hty⟩ := of_decide_eq_true c1
            obtain ⟨cA, N, t0, h2, rfl, w4, w5, w6, w7⟩ := w3
            obtain ⟨i1, i2⟩ := ka_ix.ok c2 hE exi w5
            have w8 := w7 _ hf _ i2
            rcases hty with rfl | rfl
            · exact va_bald hx hb hK hPw k0 t0 w1 w4 i1 hd (go _ (ka_rdI w8.1 w8.2))
            · exact va_zald hx hb hK hPw k0 t0 w1 w4 i1 hd (go _ (ka_rdI w8.1 w8.2))
          · obtain ⟨rfl, rfl⟩ := of_decide_eq_true c1
            obtain ⟨cA, N, t0, h2, rfl, w4, w5, w6, w7⟩ := w3
            obtain ⟨i1, i2⟩ := ka_ix.ok c2 hE exi w5
            have w8 := w7 _ hf _ i2
            exact va_sald hx hb hK hPw k0 t0 w1 w4 i1 hd (go _ (ka_rdI w8.1 w8.2))
          · cases of_decide_eq_true c1
            obtain ⟨cA, N, t0, h2, rfl, w4, w5, w6, w7⟩ := w3
            obtain ⟨i1, i2⟩ := ka_ix.ok c2 hE exi w5
            have w8 := w7 _ hf _ i2
            exact va_lald hx hb hK hPw k0 t0 w1 w4 i1 hd (go _ (ka_rdL w8.1 w8.2))
          · obtain ⟨rfl, hty⟩ := of_decide_eq_true c1
            obtain ⟨cA, N, t0, h2, rfl, w4, w5, w6, w7⟩ := w3
            obtain ⟨i1, i2⟩ := ka_ix.ok c2 hE exi w5
            have hrd : ka_rda E pd av r = true := by
              simpa using c3
            rcases w7 _ hf _ i2 with w8 | w8
            · exact absurd w8 (ka_rda.ok hrd hE hq hP hΓ1 _)
            · exact W.aald (v := va_rf (h2 x.toNatClampNeg)) (ty := fty) hx hb (hPw k0 _ w1) ((hK.2 t0 _ w4).1 N (fun j => va_rf (h2 j))) hty (fun q => by cases q) (by show ¬ (x < 0 ∨ (arrV _ _ _).slots.size ≤ _); rw [arrV_size]; exact i1) (by show (arrV _ _ _).slots[_]? = _; rw [arrV_read _ _ i2]) rfl rfl hd (go _ w8)
          · cases c1
        · cases h
      · cases h
    · cases h
  · cases h
theorem ka_nat32 {n : Nat} (h : n ≤ 2147483647) : (Int32.ofNat n).toInt = (n : Int) := nI_toInt (n := n) (by omega)
set_option maxHeartbeats 4000000 in
theorem ka_aln.ok (h : ka_aln RT E K = some (E', K')) (hx : p.tables.exec = Jvm.exec) (hb : c.code = cc) (hd : decode cc pc = .ok (.arraylength, 1))
    (k : ka_J p l e R s m args below meth c Q D cl A RT H0 av nL Γ0 nA ρ0 α0 (pc + 1) (E', L, K', pd, cs, ss)) : ka_J p l e R s m args below meth c Q D cl A RT H0 av nL Γ0 nA ρ0 α0 pc (E, L, K, pd, cs, ss) := by
  intro ρ α Γ P ws tys H locs ls lv st hk hn hΓ hρ
  have hE : ka_env ρ E := hk.1
  have hst : ka_stk ρ α Γ E.length K st := hk.2.2.2.2.1
  obtain ⟨hK, hPw, hD, hS, hT⟩ := hk.2.2.2.2.2.2.2
  unfold ka_aln at h
  split at h
  · rename_i n d K2
    split at h
    · rename_i r g e1
      split at h
      · rename_i hc
        cases h
        obtain ⟨v, st', rfl, hlt, hv, hst'⟩ := ka_stk.uncons hst
        obtain ⟨rfl, hΓ1, hR1, -⟩ := ka_knd.ok e1 hE hv
        obtain ⟨k0, e0, w1, g', w2, w3⟩ := hT _ _ hΓ1
        rw [hR1] at w2
        cases w2
        have go : ∀ N : Nat, g.2.2.2.2.1 ≤ N → N ≤ g.2.2.2.2.2 → W p l e R s m args below meth c H locs cs ss Q (F0 m (pc + 1) ls (.int (Int32.ofNat N) :: st')) := fun N u1 u2 => ka_J.res k hk hn hΓ hρ hst' (ka_mk.i hE hk.2.1 (by rw [ka_nat32 (by omega)]; omega) (by rw [ka_nat32 (by omega)]; omega))
        split at w3
        · exact absurd (by assumption) hc.1
        · obtain ⟨cA, N, t0, h2, rfl, w4, w5, w6, w7⟩ := w3
          exact va_alen hx hb hK hPw k0 t0 w1 w4 rfl hd (go N w5 w6)
        · obtain ⟨cA, N, t0, h2, rfl, w4, w5, w6, w7⟩ := w3
          exact va_alen hx hb hK hPw k0 t0 w1 w4 rfl hd (go N w5 w6)
        · obtain ⟨cA, N, t0, h2, rfl, w4, w5, w6, w7⟩ := w3
          exact va_alen hx hb hK hPw k0 t0 w1 w4 rfl hd (go N w5 w6)
        · exact absurd w3 id
      · cases h
    · cases h
  · cases h
end KI
