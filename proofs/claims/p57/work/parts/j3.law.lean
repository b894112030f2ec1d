/-! THE CLAIM OUT OF ONE WALK OF THE LAW'S BODY. Your part is whole_start (and what it stands on); all else here is the same for every law, but numbers. -/
def R_law : String := "WheelTownLaw"
def lw_P (b : Addr) (xs : List Int32) (args : Array Value) (s : State) : Prop := args = #[.ref b] ∧ s.IntsAt b xs ∧ xs.length ≤ 3072 ∧ (Jvm.Cond.and given_1 narrow_1).before args s = true
def lw_Q (_ : Array Value) (s : State) (o : Outcome) (t : State) : Prop := o = .returned (some (.int 1)) ∧ Framed s o t [] 137232 8690554
def lw_Z (below : List Frame) (a : Array Value) (s : State) : State → Prop := fun t => ∃ o, t.status = .running ∧ Ended t below o ∧ lw_Q a s o t
/-- the law's own end, with 1 on the stack, nothing written that was there before, its room as the claim has it -/
theorem lw_ret {p : Program} {l : Launch} {e : Env} {s : State} {m : MethodId} {below : List Frame} {meth : Method} {c : Code} {b : Nat} (hx : p.tables.exec = Jvm.exec) (hb : c.code = code) (hr : meth.sig.returnType = ret) (hlocks : meth.locks = false) {pc : Nat} {H : Heap} {ls : Array Slot} (hdg : decode code pc = .ok (.ireturn, 1)) : W p l e room_1 s m #[Value.ref b] below meth c H [] 137232 8690554 (lw_Z below #[Value.ref b] s) (F0 m pc ls [.int 1]) := by
  intro T hT X
  obtain ⟨fs, hret, hrun, hended, hW, hframe⟩ := X.leave (v := some (.int 1)) (hlocks := hlocks) (fun h => by rw [hr] at h; cases h)
  have hmeth' : T.vm.method? m = some meth := X.method'
  refine ⟨T.setFrames fs, ?_, .returned (some (.int 1)), hrun, hended, rfl, ⟨_, rfl⟩, hW, hframe⟩
  jvm_step X.here [X.here.top, hx, hb, hdg, hmeth', hr, ret, narrow_b1]
  (try refine ⟨rfl, ?_⟩); (try refine ⟨rfl, ?_⟩)
  first | (intro acts; rw [hret _ acts rfl rfl rfl]) | rw [hret _ _ rfl rfl rfl]
  exact Steps.refl _
/-- what holds at the law's entry: the machine, the code, the tables' words (any of lw_tbl by 'hts w (by decide +kernel)'), the script of L ints xs at the cell b, what the Statement gives of the start (any of its parts by flat_of_before) -/
def lw_At (p : Program) (s : State) (m : MethodId) (meth : Method) (c : Code) (b L : Nat) (xs : Nat → Int32) : Prop :=
  p.tables.exec = Jvm.exec ∧ c.code = code ∧ meth.sig.returnType = ret ∧ c.maxLocals = 4 ∧ s.vm.findClass R_law = some m.cls ∧ (∀ w ∈ lw_tbl, w.before #[Value.ref b] s = true) ∧ va_X b L xs s s.heap ∧ b < s.heap.size ∧ meth.locks = false ∧ (Jvm.Cond.and given_1 narrow_1).before #[Value.ref b] s = true
def te_ρ0 (L : Nat) : Nat → Int := fun k => if k = 1 then (L : Int) else 0
set_option maxHeartbeats 4000000 in
/-- from the entry, for every script, the law comes to its end with true -/
theorem whole_start {p : Program} {e : Env} {s : State} {m : MethodId} {below : List Frame} {meth : Method} {c : Code} (l : Launch) {b L : Nat} {xs : Nat → Int32} (hL : L ≤ 3072) (C0 : lw_At p s m meth c b L xs) : W p l e room_1 s m #[Value.ref b] below meth c s.heap [] 0 0 (lw_Z below #[Value.ref b] s) (entryFrame m ([Value.ref b] : List Value).toArray 4) := by
  obtain ⟨hx, hb, hr, hml, hown, hts, hX, hbl, hlocks, hgv⟩ := C0
  have htsT : ∀ w ∈ tw_Ts, w.before #[Value.ref b] s = true := fun w hw => hts w (List.mem_filter.mp hw).1
  have hD0 : ∀ ci : Nat, ∃ z : ClassId × (Nat → Nat), ∀ q : vw_C, tw_cl[ci]? = some q → u_Kn s q.1 q.2.1 q.2.2 z.1 z.2 := fun ci => by
    cases hq : tw_cl[ci]? with
    | none => exact ⟨(m.cls, fun _ => 0), fun q h => by cases h⟩
    | some q =>
      have h1 := (kt_V.2.1 ci q hq).1
      have hci : ci < 13 := by rw [← tw_cl_len]; exact (List.getElem?_eq_some_iff.mp hq).1
      have h := tw_rgl.ok kt_hCL hci
      unfold kt_cCL at h
      rw [hq] at h
      dsimp only at h
      rw [Bool.and_eq_true] at h
      obtain ⟨cC, iS, hKn⟩ := u_known (C := q.1) (T := q.2.1) (N := q.2.2) (n := q.2.2) htsT h1 (htsT _ (tw_in.ok h.2))
      exact ⟨(cC, iS), fun q' h' => by cases h'; exact hKn⟩
  have hK : va_K (fun ci => (Classical.choose (hD0 ci)).1, fun ci => (Classical.choose (hD0 ci)).2) tw_cl [] s := ⟨fun ci q hq => Classical.choose_spec (hD0 ci) q hq, fun k q h => by simp at h⟩
  generalize ((fun ci => (Classical.choose (hD0 ci)).1, fun ci => (Classical.choose (hD0 ci)).2) : va_G) = D at hK
  have hA : ∀ a : Nat, a < s.heap.size → ¬ s.heap.size ≤ a := fun a ha => Nat.not_le.mpr ha
  obtain ⟨ad, hDx⟩ := tx_Dx (A := fun q => s.heap.size ≤ q) (flat_of_before _ hgv) hts hA
  have hCx : kc_Cx kt_T kt_U tw_Ts kt_AOs kt_NWs 0 p room_1 s m #[Value.ref b] meth c (fun q => s.heap.size ≤ q) s.heap 2 (te_ρ0 L) (fun _ => b) := ⟨hx, hb, hml, hown, htsT, kt_dy hts, fun h => absurd h (by decide), fun q h => h, ⟨by decide, by decide, by decide, by decide⟩, trivial⟩
  have hC : ∀ β : Nat → Nat, tm_C p room_1 s m #[Value.ref b] c (fun q => s.heap.size ≤ q) s.heap (te_U (b, ad, []) β te_lk) L xs := fun β => ⟨hx, hb, hml, hown, htsT, hDx, fun q h => h, ⟨by decide, by decide, by decide, by decide⟩, by
    show ([] ++ te_B β 0 te_lk).length + 137232 ≤ 1000000000
    rw [List.nil_append, te_B.len, te_ll]
    omega, hX, hA b hbl, hbl, by omega⟩
  have hex : ∀ (β : Nat → Nat) (ρh : Nat → Int) (cs ss : Nat) (X : tm_X), cs ≤ 137232 → ss ≤ 8690554 → X.2.2.1 = [] → tm_J p l e room_1 s m #[Value.ref b] below meth c (lw_Z below #[Value.ref b] s) D (fun q => s.heap.size ≤ q) s.heap (te_U (b, ad, []) β te_lk) L xs tp_n ρh cs ss 2176 X := by
    intro β ρh cs ss X h1 h2 h3 ρ B ws tys H locs ls lv st hG
    have hst : tk_stk ρ B X.1.length X.2.2.1 st := hG.1.2.2.2.2.1
    have hS : va_S (fun q => s.heap.size ≤ q) s.heap H locs := hG.1.2.2.2.2.2.2.2.2.2.1
    rw [h3] at hst
    cases st with
    | cons _ _ => exact absurd hst id
    | nil =>
      refine lv_iconst hx hb (tw_V.1 0 2176 _ _ (rfl : tt_cd 0 2176 = some (.iconst 1, 1))) rfl ?_
      exact W.widen h1 h2 (va_forget (fun q hq => hS.2.2 q hq) (lw_ret hx hb hr hlocks (tw_V.1 0 2177 _ _ (rfl : tt_cd 0 2177 = some (.ireturn, 1)))))
  have hJ : kc_J p l e room_1 s m #[Value.ref b] below meth c (lw_Z below #[Value.ref b] s) D tw_cl (fun q => s.heap.size ≤ q) s.heap (kc_Tmi kt_T 0).1 2 (te_ρ0 L) 0 (fun _ => b) 0 kt_S0 := by
    have h := te_e0
    split at h
    · rename_i os hrun
      refine (kc_run.ok kt_V kt_LV tw_Ts_good 3000 0 [18] [(0, kt_S0)] [] os hrun p e room_1 s m #[Value.ref b] below meth c (lw_Z below #[Value.ref b] s) s.heap 2 (te_ρ0 L) 0 (fun _ => b) hCx (fun o ho => ?_)).1 (0, kt_S0) List.mem_cons_self
      have h2 := List.all_eq_true.mp h o ho
      rw [Bool.and_eq_true] at h2
      rw [Nat.eq_of_beq_eq_true h2.1, te_eqS.ok h2.2]
      intro ρ β ws tys H locs ls lv st hk hg
      have hβ : β 0 = b := hg.2.2.2 0 (Nat.le_refl 0)
      exact tm_loop (hC β) (hex β) 513 0 false false 261 122554 (by decide) (by decide) (by decide) (te_ρ L) (te_U (b, ad, []) β te_lk) ws tys H locs ls lv st (te_head hk hβ hL) te_R rfl
    · cases h
  have hl := lv_entry ([Value.ref b] : List Value) (n := 4) (Nat.le_of_ble_eq_true rfl)
  rw [lg_entry_eq]
  refine hJ (te_ρ0 L) (fun _ => b) [] [] s.heap [] _ (lv_args 0 [Value.ref b]) [] ⟨fun n => ?_, ⟨by decide, rfl⟩, fun i a ha hne => ?_, hl, trivial, hK, fun k q h => by simp at h, ⟨fun i j p q h => by simp at h, fun k q h => by simp at h⟩, va_S.rf, ⟨rfl, fun k g h => by simp [kt_S0] at h⟩⟩ ⟨by decide, Nat.le_refl _, fun _ _ => rfl, fun _ _ => rfl⟩
  · match n with
    | 0 => exact ⟨Int.le_refl _, Int.le_refl _⟩
    | 1 => exact ⟨by show (0 : Int) ≤ (L : Int); omega, by show (L : Int) ≤ (3072 : Int); omega⟩
    | n + 2 => exact ⟨Int.le_refl _, Int.le_refl _⟩
  · match i, ha with
    | 0, ha =>
      cases ha
      exact ⟨by decide, _, List.mem_cons_self, rfl⟩
    | 1, ha => cases ha; exact absurd rfl hne
    | 2, ha => cases ha; exact absurd rfl hne
    | 3, ha => cases ha; exact absurd rfl hne
    | n + 4, ha => exact absurd ha (by simp [kt_S0])
set_option maxHeartbeats 4000000 in
theorem lw_walk (l : Launch) (b : Addr) (xs : List Int32) : MetFree l x (headSpec (Jvm.Cond.code x code maxLocals ret :: tables_1) room_1) (lw_P b xs) (fun _ _ _ _ _ => True) lw_Q := by
  refine MetFree.of_bodyS (code := code) (maxLocals := maxLocals) (ret := ret) (by decide) ?_ ?_
  · intro args s m h hn
    obtain ⟨meth, c, h1, h2, h3, h4, h5, h6, -, -⟩ := Cond.code_spec hn (atoms_spec (ws := Jvm.Cond.code x code maxLocals ret :: tables_1) h _ List.mem_cons_self)
    exact ⟨meth, c, h1, h2, h3, h4, h5, h6⟩
  · intro p e s m args below meth c s₁ B hml0 hP _
    obtain ⟨rfl, hx, hbd, hgv⟩ := hP
    obtain ⟨scr, harrAt, hlist, hof, hsmall⟩ := hx
    obtain ⟨hcb, hkn, -, -⟩ := State.arrayAt?_spec harrAt
    have hown : s.vm.findClass R_law = some m.cls := findClass_of_methodNamed B.named
    have hts0 : ∀ c ∈ (Jvm.Cond.code x code maxLocals ret :: tables_1), c.before #[Value.ref b] s = true := atoms_spec (ws := Jvm.Cond.code x code maxLocals ret :: tables_1) B.pre
    have hts : ∀ w ∈ lw_tbl, w.before #[Value.ref b] s = true := k2_hts_sels lw_privs (fun w hw => hts0 w (List.mem_cons_of_mem _ hw)) lw_privs_ok
    have hml : c.maxLocals = 4 := B.maxLocals_eq (hts0 _ List.mem_cons_self)
    have X₀ : Stand p l e room_1 s m #[Value.ref b] below meth c s₁ [] 0 0 := Stand.of_body B
    have hh0 : s₁.heap = s.heap := by rw [B.state]; rfl
    have hsz : scr.slots.size = xs.length := by rw [← Array.length_toList, hlist, List.length_map]
    have hval : ∀ j : Nat, j < xs.length → scr.slots[j]? = some (.int (xs.getD j 0)) := fun j hj => by
      rw [← Array.getElem?_toList, hlist]
      simp [hj]
    have hbl : b < s.heap.size := (Array.getElem?_eq_some_iff.mp hcb).1
    have hX : va_X b xs.length (fun j => xs.getD j 0) s s.heap := ⟨scr, hcb, hof, hkn, hsz, hval⟩
    have K : W p l e room_1 s m #[Value.ref b] below meth c s₁.heap [] 0 0 (lw_Z below #[Value.ref b] s) (entryFrame m ([Value.ref b] : List Value).toArray 4) := by
      rw [hh0]
      exact whole_start l hbd ⟨B.exec, B.bytes, B.returns, hml, hown, hts, hX, hbl, B.notSynchronized, hgv⟩
    obtain ⟨t, a1, o, b1, b2, b3⟩ := K s₁ rfl X₀
    exact ⟨t, o, a1, b1, b2, b3⟩
theorem lw_pre_spec {args : Array Value} {s : State} (h : (Jvm.Cond.and given_1 narrow_1).before args s = true) (hr : rest_1_c.before args s = true) : ∃ (b : Addr) (xs : List Int32), lw_P b xs args s := by
  have hs := flat_of_before _ h
  have hq := flat_of_before _ hr
  have hc : (Cond.count 1).before args s = true := hs _ (by decide +kernel)
  have harr : (Cond.arrayOf (.arg 0) .int).before args s = true := hs _ (by decide +kernel)
  have hle : (Cond.le (.length (.arg 0)) (.int 3072)).before args s = true := hs _ (by decide +kernel)
  have hlen : (Cond.isInt (.length (.arg 0))).before args s = true := hq _ (by decide +kernel)
  have hall : (Cond.all (.arg 0) (.isInt (.elem (.arg 0) (.index 0)))).before args s = true := hq _ (by decide +kernel)
  obtain ⟨b, xs, hb, hx⟩ := State.ints_of_pre rfl harr hlen hall
  have hsm : xs.length < 2 ^ 31 := hx.choose_spec.2.2.2
  have hev : (Term.length (.arg 0)).eval args s none [] s = some (.int xs.length.toInt32) := hx.length_eval hb
  have hv := Cond.le_ints hev (show (Term.int 3072).eval args s none [] s = some (.int 3072) from rfl)
  have hd : xs.length.toInt32 ≤ 3072 := by
    simpa [Cond.before, Cond.holds, hv] using hle
  have hN : xs.length ≤ 3072 := (Int32.ofNat_le_ofNat hsm (by decide)).mp (show Int32.ofNat xs.length ≤ Int32.ofNat 3072 from hd)
  exact ⟨b, xs, Cond.one_arg hc (show args[0]? = some (.ref b) from hb), hx, hN, h⟩
theorem lw_comes (l : Launch) : Comes l x (Jvm.Cond.code x code maxLocals ret :: tables_1) room_1 (fun tb e args s => Calls_1 tb e args s ∧ rest_1 tb e args s ∧ Pre_1 tb e args s)
    (fun _ _ args s o t => lw_Q args s o t) := by
  intro p e ha hc hk s m args below hf hfit hheap happ hpre
  obtain ⟨b, xs, hP⟩ := lw_pre_spec hpre.2.2 hpre.2.1
  obtain ⟨k, o, h1, h2, h3, hQ⟩ := lw_walk l b xs p e ha hc hk s m args below hf ((Spec.applies_iff_loose hf).mp happ).1 hP trivial
  exact ⟨k, o, h1, h2, h3, hQ⟩
theorem lw_frame {s t : State} {o : Outcome} {args : Array Value} (h : Framed s o t [] 137232 8690554) :
    Framed s o t (fieldLocs frame_1_writes args s ++ arrayLocs frame_1_arrays args s ++ staticLocs frame_1_statics s) 137232 8690554 := h
theorem lw_limb (L : Cond) (hL : ∀ (args : Array Value) (s t : State), L.after args s (.returned (some (.int 1))) t = true) :
    ArmFor flags0 classFile x code maxLocals ret World_1 tables_1 room_1 Calls_1 rest_1 Pre_1
      (fun tb e a s o t => postC L tb e a s o t ∧ Framed s o t (fieldLocs frame_1_writes a s ++ arrayLocs frame_1_arrays a s ++ staticLocs frame_1_statics s) 137232 8690554) := by
  intro l _ _ _ p e ha hc hk s m args below hf hfit hheap happ hpre
  obtain ⟨k, o, h1, h2, h3, rfl, hF⟩ := lw_comes l p e ha hc hk s m args below hf hfit hheap happ hpre
  exact ⟨k, _, h1, h2, h3, hL args s _, lw_frame hF⟩
theorem i_vc : Claimed_1_1 ∧ Claimed_1_2 := ⟨lw_limb limb_1_1 (fun args s t => by simp [limb_1_1, Cond.after, Cond.holds, Cond.value]), lw_limb limb_1_2 (fun args s t => Cond.after_iff.mpr (by
  first | (rw [show limb_1_2 = Cond.eq .result (.int 1) from rfl, Cond.eq_ints (x := 1) (y := 1) rfl rfl]; simp; done) | (simp [limb_1_2, Cond.value, Term.eval]; done)))⟩
