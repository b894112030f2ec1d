/-! ===== pieces of a run, with a hand's own branches between them ===== -/
/-- what stands at a place of the cell with number z -/
def tl_pl (ws : va_W) (z : Int) (i : Nat) : Option Value := (ws[(z - 1).toNat]?).bind (fun q => tk_pl q.2 i)
theorem tl_pl.fa {B : tk_B} {ws : va_W} {to tv : Nat} {zo zi zv : Int} (h : tk_fa B ws to zo zi tv zv) : ∃ w : Value, tl_pl ws zo zi.toNat = some w ∧ tk_vn B tv zv w ∧ 0 ≤ zi := by
  obtain ⟨j, a, e, w, h1, h2, h3, h4, h5, h6, h7⟩ := h
  refine ⟨w, ?_, h7, h5⟩
  unfold tl_pl
  rw [h3, show ((j : Int) + 1 - 1).toNat = j by omega, h4]
  exact h6
/-- the cell with number z is of kind κ -/
def tl_kd (B : tk_B) (z : Int) (κ : Nat) : Prop := ∃ j a : Nat, z = (j : Int) + 1 ∧ B.2.2[j]? = some (a, κ)
theorem tl_kd.fa {B : tk_B} {ws : va_W} {to tv : Nat} {zo zi zv : Int} (h : tk_fa B ws to zo zi tv zv) : tl_kd B zo (to - 10) := by
  obtain ⟨j, a, e, w, h1, h2, h3, -⟩ := h
  exact ⟨j, a, h3, h2⟩
theorem tl_kd.up {B B' : tk_B} {z : Int} {κ : Nat} (h : tl_kd B z κ) (hB : tk_le B B') : tl_kd B' z κ := by
  obtain ⟨j, a, h1, h2⟩ := h
  exact ⟨j, a, h1, hB.at h2⟩
theorem tl_pl.fr {F : List (Nat × Nat × Nat)} {B : tk_B} {ws ws' : va_W} {z : Int} {κ i : Nat} (h : tk_fr F B ws ws') (hk : tl_kd B z κ) (hF : tk_iF F κ i = false) : tl_pl ws' z i = tl_pl ws z i := by
  obtain ⟨j, a, h1, h2⟩ := hk
  obtain ⟨e0, e, g1, g2, g3⟩ := h j a κ h2
  unfold tl_pl
  rw [h1, show ((j : Int) + 1 - 1).toNat = j by omega, g1, g2]
  exact g3 i hF
theorem tk_fr.self {F F' : List (Nat × Nat × Nat)} {B : tk_B} {ws0 ws : va_W} (h : tk_fr F B ws0 ws) : tk_fr F' B ws ws := fun j a κ hj => by
  obtain ⟨e0, e, g1, g2, g3⟩ := h j a κ hj
  exact ⟨e, e, g2, g2, fun _ _ => rfl⟩
section TY
variable {T : tk_T} {U : kc_U} {Ts : List Jvm.Cond} {NWs : List (String × Nat × MethodName × String)} {TXs : List (String × Nat × String × Nat)} {St : (Nat → Nat) → State → Heap → Prop} {sc nt : Nat} {Ks : Nat → Option tk_K} {nw : Nat → Nat × Nat × Nat × Nat} {y : Nat}
variable {p : Program} {l : Launch} {e : Env} {R : Room} {s : State} {m : MethodId} {args : Array Value} {below : List Frame} {meth : Method} {c : Code} {Q : State → Prop}
variable {D : va_G} {cl : List vw_C} {A : Nat → Prop} {H0 : Heap} {F F' : List (Nat × Nat × Nat)} {B0 : tk_B} {ws0 : va_W} {nA : Nat} {ρ0 : Nat → Int}
/-- a piece: from a state to some others, over what F' names at the most -/
theorem tl_seg {f pc : Nat} {op : List Nat} {tp tp' : List tk_I} {S : tk_S} {os : List (Nat × tk_S)} (hV : tk_TV T U cl Ts TXs) (hLV : tk_LV T U Ts NWs) (hG : GoodIn Ts Ts) (hSc : tk_Sc A St) (hTx : ∀ (s : State) (H : Heap) (ad : Nat → Nat), tk_Dx NWs TXs St ad s H → ∀ k, k < nt → ∃ cell : Cell, H[ad k]? = some cell ∧ cell.vm.isStatics = false ∧ s.vm.findClass (U.1 sc) = some cell.cls) (hKs : ∀ (id : Nat) (k : tk_K), Ks id = some k → tk_Con T U Ts NWs TXs St l D cl A k) (hNV : tk_NV T U Ts NWs TXs St l D cl A nw)
    (hX : tk_Cx T U Ts NWs TXs St y p R s m args meth c A H0 B0 nA ρ0) (hrun : tk_run T F' sc nt Ks nw f y op tp [(pc, S)] [] = some (os, tp')) (hF : F'.all (fun q => tk_iG F q.1 q.2.1 q.2.2) = true)
    {ρ : Nat → Int} {B : tk_B} {ws : va_W} {tys : List (ClassId × FieldType)} {H : Heap} {locs : List Loc} {ls : Array Slot} {lv : List (Nat × Value)} {st : List Value} (hk : tk_ok D cl A s H0 (tk_TKT T) F B0 ws0 (tk_Tmi T y).1 S ρ B ws tys H locs ls lv st) (hg : tk_ag nA ρ0 S.1.length ρ)
    (k : ∀ o ∈ os, ∀ (ρ' : Nat → Int) (B' : tk_B) (ws' : va_W) (tys' : List (ClassId × FieldType)) (H' : Heap) (locs' : List Loc) (ls' : Array Slot) (lv' : List (Nat × Value)) (st' : List Value), tk_ok D cl A s H0 (tk_TKT T) F B0 ws0 (tk_Tmi T y).1 o.2 ρ' B' ws' tys' H' locs' ls' lv' st' → tk_ag S.1.length ρ o.2.1.length ρ' → tk_fr F' B0 ws ws' → W p l e R s m args below meth c H' locs' o.2.2.2.2.2.1 o.2.2.2.2.2.2 Q (F0 m o.1 ls' st')) : W p l e R s m args below meth c H locs S.2.2.2.2.1 S.2.2.2.2.2 Q (F0 m pc ls st) := by
  obtain ⟨hE, h0, hL, hl, hst, hMm, hK, hPw, hD, hS, hC, hFr, hLe, hBl⟩ := id hk
  refine (tk_run.ok hV hLV hG hSc hTx hKs hNV f y op tp tp' _ [] os hrun p e R s m args below meth c Q H0 B0 ws _ ρ (hX.mono hg) (fun o ho => ?_)).1 _ List.mem_cons_self ρ B ws tys H locs ls lv st ⟨hE, h0, hL, hl, hst, hMm, hK, hPw, hD, hS, hC, hFr.self, hLe, hBl⟩ ⟨Nat.le_refl _, fun _ _ => rfl⟩
  intro ρ' B' ws' tys' H' locs' ls' lv' st' hk' hg'
  obtain ⟨hE', h0', hL', hl', hst', hMm', hK', hPw', hD', hS', hC', hFr', hLe', hBl'⟩ := hk'
  exact k o ho ρ' B' ws' tys' H' locs' ls' lv' st' ⟨hE', h0', hL', hl', hst', hMm', hK', hPw', hD', hS', hC', hFr.tr hFr' (tk_le.rf B0) (fun κ i hi => by
    obtain ⟨q, y1, y2⟩ := List.any_eq_true.mp hi
    simp only [Bool.and_eq_true] at y2
    have y3 := List.all_eq_true.mp hF q y1
    rw [tk_bq y2.1.1] at y3
    exact tk_iG.ok y3 (Nat.le_of_ble_eq_true y2.1.2) (Nat.le_of_ble_eq_true y2.2)), hLe', hBl'⟩ hg' hFr'
end TY
section TZ
variable {p : Program} {l : Launch} {e : Env} {R : Room} {s : State} {m : MethodId} {args : Array Value} {below : List Frame} {meth : Method} {c : Code} {Q : State → Prop} {cc : ByteArray}
variable {nL : Nat} {D : va_G} {cl : List vw_C} {A : Nat → Prop} {H0 : Heap} {KT : Nat → tk_G} {F : List (Nat × Nat × Nat)} {B0 : tk_B} {ws0 : va_W}
variable {E : tk_E} {L K2 : List tk_V} {M M' : tk_M} {cs ss pc t : Nat} {w i a : tk_P} {ρ : Nat → Int} {B : tk_B} {ws : va_W} {tys : List (ClassId × FieldType)} {H : Heap} {locs : List Loc} {ls : Array Slot} {lv : List (Nat × Value)} {st : List Value}
set_option maxHeartbeats 4000000 in
/-- a store of an int, with all that it does -/
theorem tl_ist (h : tk_ast KT F .iastore E ((1, w) :: (1, i) :: (t, a) :: K2) M = some (K2, M')) (hx : p.tables.exec = Jvm.exec) (hb : c.code = cc) (hd : decode cc pc = .ok (.iastore, 1)) (hk : tk_ok D cl A s H0 KT F B0 ws0 nL (E, L, (1, w) :: (1, i) :: (t, a) :: K2, M, cs, ss) ρ B ws tys H locs ls lv st)
    (k : ∀ (ws' : va_W) (H1 : Heap) (locs1 : List Loc) (st' : List Value), tk_ok D cl A s H0 KT F B0 ws0 nL (E, L, K2, M', cs, ss) ρ B ws' tys H1 locs1 ls lv st' → (∃ xw : Int32, xw.toInt = ρ w.1 + w.2 ∧ 0 ≤ ρ i.1 + i.2 ∧ tl_pl ws' (ρ a.1 + a.2) (ρ i.1 + i.2).toNat = some (.int xw)) → (∀ (z : Int) (n : Nat), 1 ≤ z → (z ≠ ρ a.1 + a.2 ∨ (n : Int) ≠ ρ i.1 + i.2) → tl_pl ws' z n = tl_pl ws z n) → W p l e R s m args below meth c H1 locs1 cs ss Q (F0 m (pc + 1) ls st')) : W p l e R s m args below meth c H locs cs ss Q (F0 m pc ls st) := by
  obtain ⟨hE, h0, hL, hl, hst, hM, hK, hPw, hD, hS, hC, hFr, hLe, hBl⟩ := id hk
  have hE : tk_env ρ E := hE
  have hst : tk_stk ρ B E.length ((1, w) :: (1, i) :: (t, a) :: K2) st := hst
  have hM : tk_mem ρ B E.length ws M := hM
  unfold tk_ast at h
  change (if (_ : Bool) = true then some _ else none) = some (K2, M') at h
  split at h
  · rename_i hc
    cases h
    simp only [Bool.and_eq_true] at hc
    obtain ⟨⟨⟨⟨c1, c2⟩, c3⟩, c4⟩, c5⟩ := hc
    obtain ⟨va, st0, rfl, hlta, hva, hst0⟩ := tk_stk.uncons hst
    obtain ⟨vi, st1, rfl, hlti, ⟨x, rfl, exi⟩, hst1⟩ := tk_stk.uncons hst0
    obtain ⟨v, st', rfl, hlt, hv, hst'⟩ := tk_stk.uncons hst1
    obtain ⟨ht, j, ad, rfl, hB, hz⟩ := tk_nm.ok hE c1 hv
    obtain ⟨e0, w1, w3⟩ := hC.2 _ _ _ hB
    obtain ⟨i1, i2, i3, i4, i5, i6⟩ := tk_ix.ok c3 hE exi
    have htw := tk_ws.ok hE c4 i3 i6 hva
    have hF := tk_iG.ok (i := x.toNatClampNeg) c5 (by omega) (by omega)
    rcases tk_ask.of c2 with ⟨-, d1, d2, -⟩ | ⟨q, -⟩ | ⟨q, -⟩ | ⟨q, -⟩ | ⟨q, -⟩
    · have w3' := w3
      unfold tk_e at w3'
      rw [d1] at w3'
      obtain ⟨cA, t0, h2, rfl, w4, w7⟩ := w3'
      rw [d2] at w4
      obtain ⟨y, rfl, ey⟩ := id hva
      have hjl := (List.getElem?_eq_some_iff.mp w1).1
      refine va_iast hx hb hK hPw hD hS j t0 w1 w4 i1 hd (fun H1 locs1 u1 u2 u3 => ?_)
      have hp : tk_pl (.inl (cA, (KT (t - 10)).2.2.2.1, .inl (upd h2 x.toNatClampNeg y))) x.toNatClampNeg = some (.int y) := by unfold tk_pl; dsimp only; rw [if_pos i2, kc_upd_eq]
      have hch : ∀ q, q ≠ x.toNatClampNeg → tk_pl (.inl (cA, (KT (t - 10)).2.2.2.1, .inl (upd h2 x.toNatClampNeg y))) q = tk_pl (.inl (cA, (KT (t - 10)).2.2.2.1, .inl h2)) q := fun q hq => by unfold tk_pl; dsimp only; rw [kc_upd_ne hq]
      have u0 : tk_e tys B (KT (t - 10)) (.inl (cA, (KT (t - 10)).2.2.2.1, .inl (upd h2 x.toNatClampNeg y))) := by
        unfold tk_e
        rw [d1]
        refine ⟨cA, t0, _, rfl, by rw [d2]; exact w4, fun q hq => ?_⟩
        by_cases e1 : q = x.toNatClampNeg
        · subst e1
          rw [kc_upd_eq]
          exact htw
        · rw [kc_upd_ne e1]
          exact w7 q hq
      have hkl : tk_mem ρ B E.length (ws.set j (ad, .inl (cA, (KT (t - 10)).2.2.2.1, .inl (upd h2 x.toNatClampNeg y)))) (tk_kl E M (t - 10) i) := tk_kl.ok hE hM hB w1 (by omega) (fun q hq => hch q (by omega))
      refine k _ H1 locs1 st' ⟨hE, h0, hL, hl, hst', ?_, hK, u1, u2, u3, hC.set hB u0, hFr.set (P := fun q => q = x.toNatClampNeg) hLe hB w1 (fun q hq => by rw [hq]; exact hF) (fun q hq => hch q hq), hLe, hBl⟩ ⟨y, ey, by omega, ?_⟩ (fun z n hz1 hzn => ?_)
      · show tk_mem ρ B E.length _ (tk_stM E M _ t a i (1, w))
        unfold tk_stM
        split
        · refine tk_mem.cons ⟨⟨hlt, hlti, hlta⟩, j, ad, _, .int y, ht, hB, hz, by rw [List.getElem?_set_self hjl], by dsimp only; omega, ?_, hva⟩ hkl
          dsimp only
          rw [← i3, Int.toNat_natCast]
          exact hp
        · exact hkl
      · unfold tl_pl
        rw [hz, show ((j : Int) + 1 - 1).toNat = j by omega, List.getElem?_set_self hjl, ← i3, Int.toNat_natCast]
        exact hp
      · unfold tl_pl
        by_cases ej : (z - 1).toNat = j
        · rw [ej, List.getElem?_set_self hjl, w1]
          refine hch n (fun q => ?_)
          rcases hzn with q1 | q1
          · omega
          · omega
        · rw [List.getElem?_set_ne (Ne.symm ej)]
    all_goals cases q
  · cases h
end TZ
/-- days of one METER rise, in the place b of READINGS: counts in the cell zc, METERS in zo, DAYS in zd -/
def tl_R (ws : va_W) (zc zo zd : Int) (b : Nat) : Prop := ∀ cnt : Int32, tl_pl ws zc b = some (.int cnt) → ∀ i j : Nat, i < j → (j : Int) < cnt.toInt → j < 120 → ∀ o d d' : Int32, tl_pl ws zo (120 * b + i) = some (.int o) → tl_pl ws zo (120 * b + j) = some (.int o) → tl_pl ws zd (120 * b + i) = some (.int d) → tl_pl ws zd (120 * b + j) = some (.int d') → d.toInt < d'.toInt
def tl_J2 (ws : va_W) (zc zo zd : Int) : Prop := ∀ b, b < 4 → tl_R ws zc zo zd b
