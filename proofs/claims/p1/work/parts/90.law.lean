/-! THE CLAIM OUT OF ONE WALK OF THE LAW'S BODY. Your part is whole_start (and what it stands on); all else here is the same for every law, but numbers. -/
def R_law : String := "WheelTownLaw"
def lw_P (b : Addr) (xs : List Int32) (args : Array Value) (s : State) : Prop := args = #[.ref b] ∧ s.IntsAt b xs ∧ xs.length ≤ 6 ∧ (Jvm.Cond.and given_1 narrow_1).before args s = true
def lw_Q (_ : Array Value) (s : State) (o : Outcome) (t : State) : Prop := o = .returned (some (.int 1)) ∧ Framed s o t [] 600000 7302250
def lw_Z (below : List Frame) (a : Array Value) (s : State) : State → Prop := fun t => ∃ o, t.status = .running ∧ Ended t below o ∧ lw_Q a s o t
/-- the law's own end, with 1 on the stack, nothing written that was there before, its room as the claim has it -/
theorem lw_ret {p : Program} {l : Launch} {e : Env} {s : State} {m : MethodId} {below : List Frame} {meth : Method} {c : Code} {b : Nat} (hx : p.tables.exec = Jvm.exec) (hb : c.code = code) (hr : meth.sig.returnType = ret) (hlocks : meth.locks = false) {pc : Nat} {H : Heap} {ls : Array Slot} (hdg : decode code pc = .ok (.ireturn, 1)) : W p l e room_1 s m #[Value.ref b] below meth c H [] 600000 7302250 (lw_Z below #[Value.ref b] s) (F0 m pc ls [.int 1]) := by
  intro T hT X
  obtain ⟨fs, hret, hrun, hended, hW, hframe⟩ := X.leave (v := some (.int 1)) (hlocks := hlocks) (fun h => by rw [hr] at h; cases h)
  have hmeth' : T.vm.method? m = some meth := X.method'
  refine ⟨T.setFrames fs, ?_, .returned (some (.int 1)), hrun, hended, rfl, ⟨_, rfl⟩, hW, hframe⟩
  jvm_step X.here [X.here.top, hx, hb, hdg, hmeth', hr, ret, narrow_b1]
  (try refine ⟨rfl, ?_⟩); (try refine ⟨rfl, ?_⟩)
  first | (intro acts; rw [hret _ acts rfl rfl rfl]) | rw [hret _ _ rfl rfl rfl]
  exact Steps.refl _
/-- what holds at the law's entry: the machine, the code, the tables' words (any of lw_tbl by 'hts w (by decide +kernel)'), the script of L ints xs at the cell b, what the Statement gives of the start (any of its parts by flat_of_before) -/
def lw_At (p : Program) (s : State) (m : MethodId) (meth : Method) (c : Code) (b L : Nat) (xs : Nat → Int32) : Prop :=
  p.tables.exec = Jvm.exec ∧ c.code = code ∧ meth.sig.returnType = ret ∧ c.maxLocals = 4 ∧ s.vm.findClass R_law = some m.cls ∧ (∀ w ∈ lw_tbl, w.before #[Value.ref b] s = true) ∧ va_X b L xs s s.heap ∧ b < s.heap.size ∧ meth.locks = false ∧ (Jvm.Cond.and given_1 narrow_1).before #[Value.ref b] s = true

section KZ
variable {p : Program} {l : Launch} {e : Env} {s : State} {m : MethodId} {args : Array Value} {below : List Frame} {meth : Method} {c : Code} {Q : State → Prop}
variable {D : va_G} {A : Nat → Prop} {H0 : Heap} {nA : Nat} {ρ0 : Nat → Int} {nB : Nat} {β0 : Nat → Nat}
/-- a run that the kernel did, all whose ends are the law's with 1 -/
theorem kt_ok.J {q : Nat × kc_S} (h : kt_ok q = true) (hX : kc_Cx kt_T kt_U kt_Ts kt_AOs kt_NWs 0 p room_1 s m args meth c A H0 nA ρ0 β0) (hfin : ∀ o : Nat × kc_S, kc_Ret kt_T 0 o → o.2.2.2.1 = [(1, 0, 1)] → kc_J p l e room_1 s m args below meth c Q D kt_cl A H0 (kc_Tmi kt_T 0).1 nA ρ0 nB β0 o.1 o.2) : kc_J p l e room_1 s m args below meth c Q D kt_cl A H0 (kc_Tmi kt_T 0).1 nA ρ0 nB β0 q.1 q.2 := by
  unfold kt_ok at h
  split at h
  · rename_i os hr
    refine (kc_run.ok kt_V kt_LV kt_Ts_good 20000 0 [] [q] [] os hr p e room_1 s m args below meth c Q H0 nA ρ0 nB β0 hX (fun o ho => ?_)).1 q List.mem_cons_self
    rcases kc_run.outs 20000 0 [] [q] [] os hr (fun o h => absurd h List.not_mem_nil) o ho with h1 | h1
    · exact absurd h1 List.not_mem_nil
    · exact hfin o h1 (of_decide_eq_true (List.all_eq_true.mp h o ho))
  · cases h
theorem kt_cut.W {q : Nat × kc_S} {a : kc_V} {r : Nat} {z : Int} (h : kt_cut q a r z = true) (h1r : r ≠ 1) (hX : kc_Cx kt_T kt_U kt_Ts kt_AOs kt_NWs 0 p room_1 s m args meth c A H0 nA ρ0 β0) (hfin : ∀ o : Nat × kc_S, kc_Ret kt_T 0 o → o.2.2.2.1 = [(1, 0, 1)] → kc_J p l e room_1 s m args below meth c Q D kt_cl A H0 (kc_Tmi kt_T 0).1 nA ρ0 nB β0 o.1 o.2)
    {ρ : Nat → Int} {β : Nat → Nat} {ws : va_W} {tys : List (ClassId × FieldType)} {H : Heap} {locs : List Loc} {ls : Array Slot} {lv : List (Nat × Value)} {st : List Value} (hk : kc_ok D kt_cl A s H0 (kc_Tmi kt_T 0).1 q.2.1 q.2.2.1 q.2.2.2.1 q.2.2.2.2.1 ρ β ws tys H locs ls lv st) (hg : kc_ag nA ρ0 nB β0 q.2.1.length q.2.2.2.2.1.length ρ β) (hr : kc_rel r (ρ a.2.1 + a.2.2) (ρ 0 + z)) : W p l e room_1 s m args below meth c H locs q.2.2.2.2.2.1 q.2.2.2.2.2.2 Q (F0 m q.1 ls st) :=
  kc_J.s1 (r := r) (a := a) (b := (1, 0, z)) (fun t ht => kt_ok.J (List.all_eq_true.mp h t ht) hX hfin) hk hg h1r hr hk.2.2.2.2.1
theorem kt_rng.at {a b i : Nat} (h : kt_rng a b = true) (h1 : a ≤ i) (h2 : i < a + b) {q : Nat × kc_S} (hq : kt_ns[i]? = some q) : kt_ok q = true := by
  have h3 := List.all_eq_true.mp h (i - a) (List.mem_range.mpr (by omega))
  rw [show a + (i - a) = i by omega, hq] at h3
  exact h3
theorem kt_nsJ (hX : kc_Cx kt_T kt_U kt_Ts kt_AOs kt_NWs 0 p room_1 s m args meth c A H0 nA ρ0 β0) (hfin : ∀ o : Nat × kc_S, kc_Ret kt_T 0 o → o.2.2.2.1 = [(1, 0, 1)] → kc_J p l e room_1 s m args below meth c Q D kt_cl A H0 (kc_Tmi kt_T 0).1 nA ρ0 nB β0 o.1 o.2) : ∀ q ∈ kt_ns, kc_J p l e room_1 s m args below meth c Q D kt_cl A H0 (kc_Tmi kt_T 0).1 nA ρ0 nB β0 q.1 q.2 := by
  intro q hq
  obtain ⟨i, hi⟩ := List.getElem?_of_mem hq
  have hl : i < 57 := by rw [← kt_len]; exact (List.getElem?_eq_some_iff.mp hi).1
  by_cases h51 : i = 51
  · subst h51
    have g0 := kt_k0
    have g1 := kt_k1
    have g2 := kt_k2
    have g3 := kt_k3
    have g4 := kt_k4
    rw [hi] at g0 g1 g2 g3 g4
    intro ρ β ws tys H locs ls lv st hk hg
    have h0 := hk.2.1.2
    by_cases c0 : ρ 3 + 0 < ρ 0 + 0
    · exact kt_cut.W (a := (1, 3, 0)) (r := 2) (z := 0) g0 (by decide) hX hfin hk hg c0
    · by_cases c1 : ρ 3 + 0 = ρ 0 + 0
      · exact kt_cut.W (a := (1, 3, 0)) (r := 0) (z := 0) g1 (by decide) hX hfin hk hg c1
      · by_cases c2 : ρ 3 + 0 = ρ 0 + 1
        · exact kt_cut.W (a := (1, 3, 0)) (r := 0) (z := 1) g2 (by decide) hX hfin hk hg c2
        · by_cases c3 : ρ 3 + 0 = ρ 0 + 2
          · exact kt_cut.W (a := (1, 3, 0)) (r := 0) (z := 2) g3 (by decide) hX hfin hk hg c3
          · exact kt_cut.W (a := (1, 3, 0)) (r := 4) (z := 2) g4 (by decide) hX hfin hk hg (show ρ 0 + 2 < ρ 3 + 0 by omega)
  · refine kt_ok.J ?_ hX hfin
    by_cases b0 : i < 10
    · exact kt_rng.at kt_g0 (by omega) (by omega) hi
    by_cases b1 : i < 20
    · exact kt_rng.at kt_g1 (by omega) (by omega) hi
    by_cases b2 : i < 29
    · exact kt_rng.at kt_g2 (by omega) (by omega) hi
    by_cases b3 : i < 40
    · exact kt_rng.at kt_g3 (by omega) (by omega) hi
    by_cases b4 : i < 51
    · exact kt_rng.at kt_g4 (by omega) (by omega) hi
    by_cases b5 : i < 57
    · exact kt_rng.at kt_g5 (by omega) (by omega) hi
    omega
/-- the law, from its entry -/
theorem kt_law (hX : kc_Cx kt_T kt_U kt_Ts kt_AOs kt_NWs 0 p room_1 s m args meth c A H0 nA ρ0 β0) (hfin : ∀ o : Nat × kc_S, kc_Ret kt_T 0 o → o.2.2.2.1 = [(1, 0, 1)] → kc_J p l e room_1 s m args below meth c Q D kt_cl A H0 (kc_Tmi kt_T 0).1 nA ρ0 nB β0 o.1 o.2) : kc_J p l e room_1 s m args below meth c Q D kt_cl A H0 (kc_Tmi kt_T 0).1 nA ρ0 nB β0 0 kt_S0 := by
  have h := kt_e0
  split at h
  · rename_i os hr
    have hJ1 : kc_J p l e room_1 s m args below meth c Q D kt_cl A H0 (kc_Tmi kt_T 0).1 nA ρ0 nB β0 33 kt_S1 := by
      have hl := kt_len
      have hn := kt_nsJ (l := l) (e := e) (below := below) (Q := Q) (D := D) (nB := nB) hX hfin
      unfold kt_ns at hl hn
      split at hl
      · rename_i i n hc
        rw [hc] at hn
        dsimp only at hn
        cases hs : kc_step kt_T 0 33 i n kt_S1 with
        | none => rw [hs] at hl; cases hl
        | some ns =>
          rw [hs] at hn
          exact kc_step.ok kt_V hX hc hs hn
      · cases hl
    refine (kc_run.ok kt_V kt_LV kt_Ts_good 3000 0 [33] [(0, kt_S0)] [] os hr p e room_1 s m args below meth c Q H0 nA ρ0 nB β0 hX (fun o ho => ?_)).1 (0, kt_S0) List.mem_cons_self
    have h2 := List.all_eq_true.mp h o ho
    split at h2
    · rename_i hb
      rw [Nat.eq_of_beq_eq_true hb, kt_eqS.ok h2]
      exact hJ1
    · rename_i hb
      rcases kc_run.outs 3000 0 [33] [(0, kt_S0)] [] os hr (fun o h => absurd h List.not_mem_nil) o ho with h1 | h1
      · have h3 : o.1 = 33 := by simpa using h1
        rw [h3] at hb
        cases hb
      · exact hfin o h1 (of_decide_eq_true h2)
  · cases h
end KZ
set_option maxHeartbeats 4000000 in
/-- from the entry, for every script of at most 6 ints, the law comes to its end with true -/
theorem whole_start {p : Program} {e : Env} {s : State} {m : MethodId} {below : List Frame} {meth : Method} {c : Code} (l : Launch) {b L : Nat} {xs : Nat → Int32} (hL : L ≤ 6) (C0 : lw_At p s m meth c b L xs) : W p l e room_1 s m #[Value.ref b] below meth c s.heap [] 0 0 (lw_Z below #[Value.ref b] s) (entryFrame m ([Value.ref b] : List Value).toArray 4) := by
  obtain ⟨hx, hb, hr, hml, hown, hts, hX, hbl, hlocks, hgv⟩ := C0
  have htsT : ∀ w ∈ kt_Ts, w.before #[Value.ref b] s = true := fun w hw => hts w (List.mem_filter.mp hw).1
  have hD0 : ∀ ci : Nat, ∃ z : ClassId × (Nat → Nat), ∀ q : vw_C, kt_cl[ci]? = some q → u_Kn s q.1 q.2.1 q.2.2 z.1 z.2 := fun ci => by
    cases hq : kt_cl[ci]? with
    | none => exact ⟨(m.cls, fun _ => 0), fun q h => by cases h⟩
    | some q =>
      have h1 := (kt_V.2.1 ci q hq).1
      have hci : ci < 13 := by rw [← kt_cl_len]; exact (List.getElem?_eq_some_iff.mp hq).1
      have h := kt_rgl.ok kt_hCL hci
      unfold kt_cCL at h
      rw [hq] at h
      dsimp only at h
      rw [Bool.and_eq_true] at h
      obtain ⟨cC, iS, hKn⟩ := u_known (C := q.1) (T := q.2.1) (N := q.2.2) (n := q.2.2) htsT h1 (htsT _ (kt_in.ok h.2))
      exact ⟨(cC, iS), fun q' h' => by cases h'; exact hKn⟩
  have hK : va_K (fun ci => (Classical.choose (hD0 ci)).1, fun ci => (Classical.choose (hD0 ci)).2) kt_cl [] s := ⟨fun ci q hq => Classical.choose_spec (hD0 ci) q hq, fun k q h => by simp at h⟩
  generalize ((fun ci => (Classical.choose (hD0 ci)).1, fun ci => (Classical.choose (hD0 ci)).2) : va_G) = D at hK
  generalize hρ : (fun k => if k = 1 then (L : Int) else if 2 ≤ k ∧ k < 2 + L then (xs (k - 2)).toInt else 0 : Nat → Int) = ρ0
  have r1 : ρ0 1 = (L : Int) := by rw [← hρ]; rfl
  have r2 : ∀ j, j < L → ρ0 (2 + j) = (xs j).toInt := fun j hj => by
    rw [← hρ]
    dsimp only
    rw [if_neg (by omega), if_pos (by omega), show 2 + j - 2 = j by omega]
  have r3 : ∀ k, k ≠ 1 → -2147483648 ≤ ρ0 k ∧ ρ0 k ≤ 2147483647 := fun k hk => by
    rw [← hρ]
    dsimp only
    rw [if_neg hk]
    split
    · exact kc_i32 _
    · omega
  have r4 : ∀ k, k = 0 ∨ 8 ≤ k → ρ0 k = 0 := fun k hk => by
    rw [← hρ]
    dsimp only
    rw [if_neg (by omega), if_neg (by omega)]
  have hXX : kc_X s (fun q => s.heap.size ≤ q) s.heap 8 ρ0 (fun _ => b) := ⟨L, xs, hX, by dsimp only; omega, hbl, by omega, by omega, by omega, r1, r2⟩
  have hCx : kc_Cx kt_T kt_U kt_Ts kt_AOs kt_NWs 0 p room_1 s m #[Value.ref b] meth c (fun q => s.heap.size ≤ q) s.heap 8 ρ0 (fun _ => b) := ⟨hx, hb, hml, hown, htsT, kt_dy hts, fun h => absurd h (by decide), fun q h => h, ⟨by decide, by decide, by decide, by decide⟩, hXX⟩
  have hfin : ∀ o : Nat × kc_S, kc_Ret kt_T 0 o → o.2.2.2.1 = [(1, 0, 1)] → kc_J p l e room_1 s m #[Value.ref b] below meth c (lw_Z below #[Value.ref b] s) D kt_cl (fun q => s.heap.size ≤ q) s.heap (kc_Tmi kt_T 0).1 8 ρ0 0 (fun _ => b) o.1 o.2 := by
    intro o hR hK1
    obtain ⟨i, n, hc, hro⟩ := hR
    have hd := kt_V.1 _ _ _ _ hc
    intro ρ β ws tys H locs ls lv st hk hg
    have hst := hk.2.2.2.2.1
    have hS := hk.2.2.2.2.2.2.2.2.1
    have h0 := hk.2.1.2
    unfold kc_retok at hro
    rw [Bool.and_eq_true, Bool.and_eq_true, hK1] at hro
    obtain ⟨⟨k1, k2⟩, k3⟩ := hro
    have k1 := Nat.eq_of_beq_eq_true k1
    subst k1
    have k2 := of_decide_eq_true k2
    have hi : i = .ireturn := by
      cases i <;> first | rfl | (exfalso; revert k3; simp; done)
    subst hi
    rw [hK1] at hst
    obtain ⟨v, st', rfl, hlt, ⟨x, rfl, ex⟩, hst'⟩ := kc_stk.uncons hst
    cases st' with
    | cons _ _ => exact absurd hst' id
    | nil =>
      have hx1 : x = 1 := Int32.toInt_inj.mp (by
        dsimp only at ex
        rw [ex, h0]
        rfl)
      subst hx1
      exact W.widen (Nat.le_trans k2.1 (by decide)) (Nat.le_trans k2.2 (by decide)) (va_forget (fun q hq => hS.2.2 q hq) (lw_ret hx hb hr hlocks hd))
  have J0 := kt_law (D := D) hCx hfin
  have hl := lv_entry ([Value.ref b] : List Value) (n := 4) (Nat.le_of_ble_eq_true rfl)
  rw [lg_entry_eq]
  refine J0 ρ0 (fun _ => b) [] [] s.heap [] _ (lv_args 0 [Value.ref b]) [] ⟨fun n => ?_, ⟨by decide, r4 0 (Or.inl rfl)⟩, fun i a ha hne => ?_, hl, trivial, hK, fun k q h => by simp at h, ⟨fun i j p q h => by simp at h, fun k q h => by simp at h⟩, va_S.rf, ⟨rfl, fun k g h => by simp [kt_S0] at h⟩⟩ ⟨by decide, Nat.le_refl _, fun _ _ => rfl, fun _ _ => rfl⟩
  · match n with
    | 0 => rw [r4 0 (Or.inl rfl)]; exact ⟨by decide, by decide⟩
    | 1 => rw [r1]; exact ⟨by show (0 : Int) ≤ _; omega, by show _ ≤ (6 : Int); omega⟩
    | 2 => exact r3 2 (by decide)
    | 3 => exact r3 3 (by decide)
    | 4 => exact r3 4 (by decide)
    | 5 => exact r3 5 (by decide)
    | 6 => exact r3 6 (by decide)
    | 7 => exact r3 7 (by decide)
    | n + 8 => rw [r4 (n + 8) (Or.inr (by omega))]; exact ⟨Int.le_refl _, Int.le_refl _⟩
  · match i, ha with
    | 0, ha =>
      cases ha
      exact ⟨by decide, _, List.mem_cons_self, rfl⟩
    | 1, ha => cases ha; exact absurd rfl hne
    | 2, ha => cases ha; exact absurd rfl hne
    | 3, ha => cases ha; exact absurd rfl hne
    | n + 4, ha => exact absurd ha (by simp [kt_S0])
set_option maxHeartbeats 4000000 in
theorem lw_walk (l : Launch) (b : Addr) (xs : List Int32) : MetFree l x (headSpec (Jvm.Cond.code x code maxLocals ret :: tables_1) room_1) (lw_P b xs) (fun _ _ _ _ _ => True) lw_Q := by
  refine MetFree.of_bodyS (code := code) (maxLocals := maxLocals) (ret := ret) (by decide) ?_ ?_
  · intro args s m h hn
    obtain ⟨meth, c, h1, h2, h3, h4, h5, h6, -, -⟩ := Cond.code_spec hn (atoms_spec (ws := Jvm.Cond.code x code maxLocals ret :: tables_1) h _ List.mem_cons_self)
    exact ⟨meth, c, h1, h2, h3, h4, h5, h6⟩
  · intro p e s m args below meth c s₁ B hml0 hP _
    obtain ⟨rfl, hx, hbd, hgv⟩ := hP
    obtain ⟨scr, harrAt, hlist, hof, hsmall⟩ := hx
    obtain ⟨hcb, hkn, -, -⟩ := State.arrayAt?_spec harrAt
    have hown : s.vm.findClass R_law = some m.cls := findClass_of_methodNamed B.named
    have hts0 : ∀ c ∈ (Jvm.Cond.code x code maxLocals ret :: tables_1), c.before #[Value.ref b] s = true := atoms_spec (ws := Jvm.Cond.code x code maxLocals ret :: tables_1) B.pre
    have hts : ∀ w ∈ lw_tbl, w.before #[Value.ref b] s = true := k2_hts_sels lw_privs (fun w hw => hts0 w (List.mem_cons_of_mem _ hw)) lw_privs_ok
    have hml : c.maxLocals = 4 := B.maxLocals_eq (hts0 _ List.mem_cons_self)
    have X₀ : Stand p l e room_1 s m #[Value.ref b] below meth c s₁ [] 0 0 := Stand.of_body B
    have hh0 : s₁.heap = s.heap := by rw [B.state]; rfl
    have hsz : scr.slots.size = xs.length := by rw [← Array.length_toList, hlist, List.length_map]
    have hval : ∀ j : Nat, j < xs.length → scr.slots[j]? = some (.int (xs.getD j 0)) := fun j hj => by
      rw [← Array.getElem?_toList, hlist]
      simp [hj]
    have hbl : b < s.heap.size := (Array.getElem?_eq_some_iff.mp hcb).1
    have hX : va_X b xs.length (fun j => xs.getD j 0) s s.heap := ⟨scr, hcb, hof, hkn, hsz, hval⟩
    have K : W p l e room_1 s m #[Value.ref b] below meth c s₁.heap [] 0 0 (lw_Z below #[Value.ref b] s) (entryFrame m ([Value.ref b] : List Value).toArray 4) := by
      rw [hh0]
      exact whole_start l hbd ⟨B.exec, B.bytes, B.returns, hml, hown, hts, hX, hbl, B.notSynchronized, hgv⟩
    obtain ⟨t, a1, o, b1, b2, b3⟩ := K s₁ rfl X₀
    exact ⟨t, o, a1, b1, b2, b3⟩
theorem lw_pre_spec {args : Array Value} {s : State} (h : (Jvm.Cond.and given_1 narrow_1).before args s = true) (hr : rest_1_c.before args s = true) : ∃ (b : Addr) (xs : List Int32), lw_P b xs args s := by
  have hs := flat_of_before _ h
  have hq := flat_of_before _ hr
  have hc : (Cond.count 1).before args s = true := hs _ (by decide +kernel)
  have harr : (Cond.arrayOf (.arg 0) .int).before args s = true := hs _ (by decide +kernel)
  have hle : (Cond.le (.length (.arg 0)) (.int 6)).before args s = true := hs _ (by decide +kernel)
  have hlen : (Cond.isInt (.length (.arg 0))).before args s = true := hq _ (by decide +kernel)
  have hall : (Cond.all (.arg 0) (.isInt (.elem (.arg 0) (.index 0)))).before args s = true := hq _ (by decide +kernel)
  obtain ⟨b, xs, hb, hx⟩ := State.ints_of_pre rfl harr hlen hall
  have hsm : xs.length < 2 ^ 31 := hx.choose_spec.2.2.2
  have hev : (Term.length (.arg 0)).eval args s none [] s = some (.int xs.length.toInt32) := hx.length_eval hb
  have hv := Cond.le_ints hev (show (Term.int 6).eval args s none [] s = some (.int 6) from rfl)
  have hd : xs.length.toInt32 ≤ 6 := by
    simpa [Cond.before, Cond.holds, hv] using hle
  have hN : xs.length ≤ 6 := (Int32.ofNat_le_ofNat hsm (by decide)).mp (show Int32.ofNat xs.length ≤ Int32.ofNat 6 from hd)
  exact ⟨b, xs, Cond.one_arg hc (show args[0]? = some (.ref b) from hb), hx, hN, h⟩
theorem lw_comes (l : Launch) : Comes l x (Jvm.Cond.code x code maxLocals ret :: tables_1) room_1 (fun tb e args s => Calls_1 tb e args s ∧ rest_1 tb e args s ∧ Pre_1 tb e args s)
    (fun _ _ args s o t => lw_Q args s o t) := by
  intro p e ha hc hk s m args below hf hfit hheap happ hpre
  obtain ⟨b, xs, hP⟩ := lw_pre_spec hpre.2.2 hpre.2.1
  obtain ⟨k, o, h1, h2, h3, hQ⟩ := lw_walk l b xs p e ha hc hk s m args below hf ((Spec.applies_iff_loose hf).mp happ).1 hP trivial
  exact ⟨k, o, h1, h2, h3, hQ⟩
theorem lw_frame {s t : State} {o : Outcome} {args : Array Value} (h : Framed s o t [] 600000 7302250) :
    Framed s o t (fieldLocs frame_1_writes args s ++ arrayLocs frame_1_arrays args s ++ staticLocs frame_1_statics s) 600000 7302250 := h
theorem lw_limb (L : Cond) (hL : ∀ (args : Array Value) (s t : State), L.after args s (.returned (some (.int 1))) t = true) :
    ArmFor flags0 classFile x code maxLocals ret World_1 tables_1 room_1 Calls_1 rest_1 Pre_1
      (fun tb e a s o t => postC L tb e a s o t ∧ Framed s o t (fieldLocs frame_1_writes a s ++ arrayLocs frame_1_arrays a s ++ staticLocs frame_1_statics s) 600000 7302250) := by
  intro l _ _ _ p e ha hc hk s m args below hf hfit hheap happ hpre
  obtain ⟨k, o, h1, h2, h3, rfl, hF⟩ := lw_comes l p e ha hc hk s m args below hf hfit hheap happ hpre
  exact ⟨k, _, h1, h2, h3, hL args s _, lw_frame hF⟩
theorem i_vc : Claimed_1_1 ∧ Claimed_1_2 := ⟨lw_limb limb_1_1 (fun args s t => by simp [limb_1_1, Cond.after, Cond.holds, Cond.value]), lw_limb limb_1_2 (fun args s t => Cond.after_iff.mpr (by
  first | (rw [show limb_1_2 = Cond.eq .result (.int 1) from rfl, Cond.eq_ints (x := 1) (y := 1) rfl rfl]; simp; done) | (simp [limb_1_2, Cond.value, Term.eval]; done)))⟩
