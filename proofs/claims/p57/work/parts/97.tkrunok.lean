/-- new objects are made whole -/
def tk_NV (T : tk_T) (U : kc_U) (Ts : List Jvm.Cond) (NWs : List (String × Nat × MethodName × String)) (TXs : List (String × Nat × String × Nat)) (St : (Nat → Nat) → State → Heap → Prop) (l : Launch) (D : va_G) (cl : List vw_C) (A : Nat → Prop) (nw : Nat → Nat × Nat × Nat × Nat) : Prop :=
  ∀ (y pc ix κ : Nat), tk_Tcd T y pc = some (.new ix, 3) → tk_Tnk T y pc = some κ → ∀ (p : Program) (e : Env) (R : Room) (s : State) (m : MethodId) (args : Array Value) (below : List Frame) (meth : Method) (c : Code) (Q : State → Prop) (H0 : Heap) (F : List (Nat × Nat × Nat)) (B0 : tk_B) (ws0 : va_W) (nA : Nat) (ρ0 : Nat → Int) (S : tk_S), tk_Cx T U Ts NWs TXs St y p R s m args meth c A H0 B0 nA ρ0 → S.2.2.2.2.1 + (nw κ).1 ≤ (tk_Tmi T y).2.2.1 → S.2.2.2.2.2 + (nw κ).2.1 ≤ (tk_Tmi T y).2.2.2.1 → (nw κ).2.2.1 ≤ (tk_Tmi T y).2.2.2.2.1 → (nw κ).2.2.2 ≤ (tk_Tmi T y).2.2.2.2.2.1 → tk_cat S.2.2.1 ≤ 6 →
    tk_J p l e R s m args below meth c Q D cl A H0 (tk_TKT T) F B0 ws0 (tk_Tmi T y).1 nA ρ0 (pc + 7) (S.1 ++ [(1, tk_CAP, 0, 0, 0, 0)], S.2.1, (10 + κ, S.1.length, 0) :: S.2.2.1, S.2.2.2.1, S.2.2.2.2.1 + (nw κ).1, S.2.2.2.2.2 + (nw κ).2.1) → tk_J p l e R s m args below meth c Q D cl A H0 (tk_TKT T) F B0 ws0 (tk_Tmi T y).1 nA ρ0 pc S
theorem tk_X.mono {s : State} {A : Nat → Prop} {H0 : Heap} {nA n1 : Nat} {ρ0 ρ1 : Nat → Int} {b : Nat} (h : tk_X s A H0 nA ρ0 b) (hg : tk_ag nA ρ0 n1 ρ1) : tk_X s A H0 n1 ρ1 b := by
  obtain ⟨Ln, xs, x1, x2, x3, x4, x5, x6⟩ := h
  exact ⟨Ln, xs, x1, x2, x3, x4, Nat.lt_of_lt_of_le x5 hg.1, by rw [hg.2 1 x5]; exact x6⟩
section TU
variable {T : tk_T} {U : kc_U} {Ts : List Jvm.Cond} {NWs : List (String × Nat × MethodName × String)} {TXs : List (String × Nat × String × Nat)} {St : (Nat → Nat) → State → Heap → Prop} {y : Nat} {sc nt : Nat} {Ks : Nat → Option tk_K} {nw : Nat → Nat × Nat × Nat × Nat}
variable {p : Program} {l : Launch} {e : Env} {R : Room} {s : State} {m : MethodId} {args : Array Value} {below : List Frame} {meth : Method} {c : Code} {Q : State → Prop}
variable {D : va_G} {cl : List vw_C} {A : Nat → Prop} {H0 : Heap} {F : List (Nat × Nat × Nat)} {B0 : tk_B} {ws0 : va_W}
variable {nA : Nat} {ρ0 : Nat → Int}
theorem tk_Cx.mono {n1 : Nat} {ρ1 : Nat → Int} (hg : tk_ag nA ρ0 n1 ρ1) (hX : tk_Cx T U Ts NWs TXs St y p R s m args meth c A H0 B0 nA ρ0) : tk_Cx T U Ts NWs TXs St y p R s m args meth c A H0 B0 n1 ρ1 := by
  obtain ⟨x1, x2, x3, x4, x5, x6, x7, x8, x9, x10⟩ := hX
  exact ⟨x1, x2, x3, x4, x5, x6, x7, x8, x9, fun q => (x10 q).mono hg⟩
set_option maxHeartbeats 4000000 in
theorem tk_inv.ok {pc : Nat} {S : tk_S} {i : Instr} {n : Nat} {tp tp' : List tk_I} {ns : List (Nat × tk_S)} (hV : tk_TV T U cl Ts TXs) (hLV : tk_LV T U Ts NWs) (hG : GoodIn Ts Ts) (hSc : tk_Sc A St) (hTx : ∀ (s : State) (H : Heap) (ad : Nat → Nat), tk_Dx NWs TXs St ad s H → ∀ k, k < nt → ∃ cell : Cell, H[ad k]? = some cell ∧ cell.vm.isStatics = false ∧ s.vm.findClass (U.1 sc) = some cell.cls) (hKs : ∀ (id : Nat) (k : tk_K), Ks id = some k → tk_Con T U Ts NWs TXs St l D cl A k)
    (hX : tk_Cx T U Ts NWs TXs St y p R s m args meth c A H0 B0 nA ρ0) (hc : tk_Tcd T y pc = some (i, n)) (h : tk_inv T F sc nt Ks y pc S i n tp = some (.inr (.inl ns), tp'))
    (k : ∀ q ∈ ns, tk_J p l e R s m args below meth c Q D cl A H0 (tk_TKT T) F B0 ws0 (tk_Tmi T y).1 nA ρ0 q.1 q.2) : tk_J p l e R s m args below meth c Q D cl A H0 (tk_TKT T) F B0 ws0 (tk_Tmi T y).1 nA ρ0 pc S := by
  have hd := hV.1 _ _ _ _ hc
  obtain ⟨E, L, K, M, cs, ss⟩ := S
  unfold tk_inv at h
  split at h
  · rename_i y2 hlk
    split at h
    · rename_i ix
      split at h
      · rename_i hr0
        simp only [Bool.and_eq_true] at hr0
        obtain ⟨⟨a1, a2⟩, a3⟩ := hr0
        have a1 := tk_bq a1
        subst a1
        have a2 := Nat.le_of_ble_eq_true a2
        have a3 := Nat.le_of_ble_eq_true a3
        obtain ⟨r, hr, hq⟩ := Option.map_eq_some_iff.mp h
        cases hq
        obtain ⟨hx, hb, hml, hown, hts, hdx, hA, ⟨r1, r2, r3, r4⟩, hcap, hXX⟩ := hX
        obtain ⟨l4, -⟩ := hLV _ _ _ _ hlk
        obtain ⟨w1, w2, w3, w4⟩ := l4 rfl
        exact tk_acp.ok hr hx hb hml hown (hts _ w1) (hts _ w2) (hts _ w3) (hts _ w4) (Nat.le_trans a2 r3) (Nat.le_trans (by decide) (Nat.le_trans a3 r4)) hd (k _ List.mem_cons_self)
      · cases h
    · cases h
  · split at h
    · obtain ⟨r, hr, hq⟩ := Option.map_eq_some_iff.mp h
      cases hq
    · obtain ⟨r, hr, hq⟩ := Option.map_eq_some_iff.mp h
      cases hq
    · split at h
      · rename_i kk q h1 h2
        split at h
        · rename_i r hr
          split at h
          · rename_i hy
            obtain ⟨rs, hrs, hq⟩ := Option.map_eq_some_iff.mp h
            cases hq
            obtain ⟨r1, r2, r3⟩ := r
            cases tk_bq hy
            exact tk_tcs.ok h2 (tk_app.ok hV hLV hG hSc hTx hX hc hr (hKs _ _ h1) hrs (fun r hr => k _ (List.mem_map.mpr ⟨r, hr, rfl⟩)))
          · cases h
        · cases h
      · cases h
    · cases h
set_option maxHeartbeats 4000000 in
theorem tk_one.ok {pc : Nat} {S : tk_S} {tp tp' : List tk_I} {ns : List (Nat × tk_S)} (hV : tk_TV T U cl Ts TXs) (hLV : tk_LV T U Ts NWs) (hG : GoodIn Ts Ts) (hSc : tk_Sc A St) (hTx : ∀ (s : State) (H : Heap) (ad : Nat → Nat), tk_Dx NWs TXs St ad s H → ∀ k, k < nt → ∃ cell : Cell, H[ad k]? = some cell ∧ cell.vm.isStatics = false ∧ s.vm.findClass (U.1 sc) = some cell.cls) (hKs : ∀ (id : Nat) (k : tk_K), Ks id = some k → tk_Con T U Ts NWs TXs St l D cl A k) (hNV : tk_NV T U Ts NWs TXs St l D cl A nw)
    (hX : tk_Cx T U Ts NWs TXs St y p R s m args meth c A H0 B0 nA ρ0) (h : tk_one T F sc nt Ks nw y pc S tp = some (.inr (.inl ns), tp'))
    (k : ∀ q ∈ ns, tk_J p l e R s m args below meth c Q D cl A H0 (tk_TKT T) F B0 ws0 (tk_Tmi T y).1 nA ρ0 q.1 q.2) : tk_J p l e R s m args below meth c Q D cl A H0 (tk_TKT T) F B0 ws0 (tk_Tmi T y).1 nA ρ0 pc S := by
  unfold tk_one at h
  split at h
  · rename_i rs hrs
    cases h
    obtain ⟨j, -, h2⟩ := Option.bind_eq_some_iff.mp hrs
    exact tk_spl.ok h2 (fun r hr => k _ (List.mem_map.mpr ⟨r, hr, rfl⟩))
  · split at h
    · rename_i i n hc
      split at h
      · split at h
        · cases h
        · cases h
      · exact tk_inv.ok hV hLV hG hSc hTx hKs hX hc h k
      · split at h
        · rename_i ix _
          obtain ⟨ns', hns, hq⟩ := Option.map_eq_some_iff.mp h
          cases hq
          unfold tk_mke at hns
          split at hns
          · rename_i κ hκ
            split at hns
            · rename_i hcc
              cases hns
              simp only [Bool.and_eq_true] at hcc
              obtain ⟨⟨⟨⟨⟨c1, c2⟩, c3⟩, c4⟩, c5⟩, c6⟩ := hcc
              have c1 := tk_bq c1
              subst c1
              exact hNV _ _ _ _ hc hκ p e R s m args below meth c Q H0 F B0 ws0 nA ρ0 S hX (Nat.le_of_ble_eq_true c2) (Nat.le_of_ble_eq_true c3) (Nat.le_of_ble_eq_true c4) (Nat.le_of_ble_eq_true c5) (Nat.le_of_ble_eq_true c6) (k _ List.mem_cons_self)
            · cases hns
          · cases hns
        · obtain ⟨ns', hns, hq⟩ := Option.map_eq_some_iff.mp h
          cases hq
          exact tk_step.ok hV hX hc hns k
    · cases h
theorem tk_inv.no {pc : Nat} {S : tk_S} {i : Instr} {n : Nat} {tp tp' : List tk_I} (h : tk_inv T F sc nt Ks y pc S i n tp = some (.inl (), tp')) : False := by
  unfold tk_inv at h
  split at h
  · split at h
    · split at h
      · obtain ⟨r, hr, hq⟩ := Option.map_eq_some_iff.mp h
        cases hq
      · cases h
    · cases h
  · split at h
    · obtain ⟨r, hr, hq⟩ := Option.map_eq_some_iff.mp h
      cases hq
    · obtain ⟨r, hr, hq⟩ := Option.map_eq_some_iff.mp h
      cases hq
    · split at h
      · split at h
        · split at h
          · obtain ⟨rs, hrs, hq⟩ := Option.map_eq_some_iff.mp h
            cases hq
          · cases h
        · cases h
      · cases h
    · cases h
theorem tk_inv.inl {pc : Nat} {S : tk_S} {i : Instr} {n : Nat} {tp tp' : List tk_I} {r : Nat × List tk_V × List tk_V × Option (List tk_A)} (h : tk_inv T F sc nt Ks y pc S i n tp = some (.inr (.inr r), tp')) : tk_cal T sc nt y i n S = some (r.1, r.2.1, r.2.2.1) := by
  unfold tk_inv at h
  split at h
  · split at h
    · split at h
      · obtain ⟨r, hr, hq⟩ := Option.map_eq_some_iff.mp h
        cases hq
      · cases h
    · cases h
  · split at h
    · obtain ⟨r, hr, hq⟩ := Option.map_eq_some_iff.mp h
      cases hq
      exact hr
    · obtain ⟨r, hr, hq⟩ := Option.map_eq_some_iff.mp h
      cases hq
      exact hr
    · split at h
      · split at h
        · split at h
          · obtain ⟨rs, hrs, hq⟩ := Option.map_eq_some_iff.mp h
            cases hq
          · cases h
        · cases h
      · cases h
    · cases h
theorem tk_one.ret {pc : Nat} {S : tk_S} {tp tp' : List tk_I} {u : Unit} (h : tk_one T F sc nt Ks nw y pc S tp = some (.inl u, tp')) : tk_Ret T y (pc, S) := by
  unfold tk_one at h
  split at h
  · cases h
  · split at h
    · rename_i i n hc
      split at h
      · split at h
        · rename_i hr
          exact ⟨i, n, hc, hr⟩
        · cases h
      · exact (tk_inv.no h).elim
      · split at h
        · obtain ⟨ns', hns, hq⟩ := Option.map_eq_some_iff.mp h
          cases hq
        · obtain ⟨ns', hns, hq⟩ := Option.map_eq_some_iff.mp h
          cases hq
    · cases h
theorem tk_one.inl {pc : Nat} {S : tk_S} {tp tp' : List tk_I} {r : Nat × List tk_V × List tk_V × Option (List tk_A)} (h : tk_one T F sc nt Ks nw y pc S tp = some (.inr (.inr r), tp')) : ∃ (i : Instr) (n : Nat), tk_Tcd T y pc = some (i, n) ∧ tk_cal T sc nt y i n S = some (r.1, r.2.1, r.2.2.1) := by
  unfold tk_one at h
  split at h
  · cases h
  · split at h
    · rename_i i n hc
      split at h
      · split at h
        · cases h
        · cases h
      · exact ⟨i, n, hc, tk_inv.inl h⟩
      · split at h
        · obtain ⟨ns', hns, hq⟩ := Option.map_eq_some_iff.mp h
          cases hq
        · obtain ⟨ns', hns, hq⟩ := Option.map_eq_some_iff.mp h
          cases hq
    · cases h
/-- every end is a return, or a head that is open -/
theorem tk_run.outs : ∀ (f y : Nat) (op : List Nat) (tp tp' : List tk_I) (todo outs outs' : List (Nat × tk_S)), tk_run T F sc nt Ks nw f y op tp todo outs = some (outs', tp') → (∀ o ∈ outs, o.1 ∈ op ∨ tk_Ret T y o) → ∀ o ∈ outs', o.1 ∈ op ∨ tk_Ret T y o
  | 0, _, _, _, _, _, _, _, h, _ => by
    unfold tk_run at h
    cases h
  | f + 1, y, op, tp, tp', [], outs, outs', h, ho => by
    unfold tk_run at h
    cases h
    exact ho
  | f + 1, y, op, tp, tp', q :: rest, outs, outs', h, ho => by
    unfold tk_run at h
    split at h
    · rename_i hop
      refine tk_run.outs f y op tp tp' rest (q :: outs) outs' h (fun o h1 => ?_)
      rcases List.mem_cons.mp h1 with rfl | h1
      · exact Or.inl (by simpa using hop)
      · exact ho o h1
    · split at h
      · rename_i ws tp1 hh
        split at h
        · split at h
          · rename_i z hz
            split at h
            · refine tk_run.outs f y op z.2 tp' rest _ outs' h (fun o h3 => ?_)
              rcases List.mem_append.mp h3 with h3 | h3
              · obtain ⟨r, h4, h5⟩ := List.mem_flatMap.mp h3
                obtain ⟨h5, h6⟩ := List.mem_filter.mp h5
                have h6 := of_decide_eq_true h6
                obtain ⟨t1, t2, h7⟩ := tk_lps.of hz r h4
                split at h7
                · rename_i ns tp2 hns
                  rcases tk_run.outs f y (q.1 :: op) tp2 t2 ns [] r.2 h7 (fun o h => by cases h) o h5 with h8 | h8
                  · rcases List.mem_cons.mp h8 with h8 | h8
                    · exact absurd h8 h6
                    · exact Or.inl h8
                  · exact Or.inr h8
                · cases h7
              · exact ho o h3
            · cases h
          · cases h
        · cases h
      · rename_i tp1 hh
        split at h
        · rename_i tp2 h1
          refine tk_run.outs f y op tp2 tp' rest (q :: outs) outs' h (fun o h3 => ?_)
          rcases List.mem_cons.mp h3 with rfl | h3
          · exact Or.inr (tk_one.ret h1)
          · exact ho o h3
        · exact tk_run.outs f y op _ tp' _ _ outs' h ho
        · split at h
          · exact tk_run.outs f y op _ tp' _ _ outs' h ho
          · cases h
        · split at h
          · split at h
            · exact tk_run.outs f y op _ tp' _ _ outs' h ho
            · cases h
          · cases h
        · cases h
      · cases h
end TU
