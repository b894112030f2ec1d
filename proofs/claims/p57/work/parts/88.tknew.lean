def tk_CAP : Int := 1000000000
/-- an array of a kind -/
def tk_nar (KT : Nat → tk_G) (nk : Option Nat) (RC RS : Nat) (at0 : ArrayType) (E : tk_E) (K : List tk_V) (cs ss : Nat) : Option (tk_E × List tk_V × Nat × Nat) := match K, nk with
  | (1, a) :: K', some κ => if (tk_con E a && decide (tk_lo E a = ((KT κ).2.2.2.1 : Int)) && Nat.ble (KT κ).2.2.2.1 60000000 && Nat.ble (cs + 1) RC && Nat.ble (ss + (KT κ).2.2.2.1) RS && Nat.beq (KT κ).1 1 && (KT κ).2.2.2.2.2.1.isEmpty && kc_sub (1, 0, 0) (KT κ).2.2.2.2.1) = true then
      (match at0 with
      | .int => if (KT κ).2.2.1 = .int then some (E ++ [(1, tk_CAP, 0, 0, 0, 0)], (10 + κ, E.length, 0) :: K', cs + 1, ss + (KT κ).2.2.2.1) else none
      | .short => if (KT κ).2.2.1 = .short then some (E ++ [(1, tk_CAP, 0, 0, 0, 0)], (10 + κ, E.length, 0) :: K', cs + 1, ss + (KT κ).2.2.2.1) else none
      | _ => none) else none
  | _, _ => none
/-- an upper bound of a sum -/
def tk_sh1 (E : tk_E) (p q : tk_P) (h : Int) : Int :=
  let e := tk_at E q.1
  let h1 := if Nat.beq e.2.2.1 2 = true then (let d := (tk_at E e.2.2.2.1).2.1 + e.2.2.2.2.2 + (tk_B2 E p.1 e.2.2.2.2.1).2 + p.2 + q.2; if h ≤ d then h else d) else h
  (tk_ds 0 E).foldl (fun h k => let f := tk_at E k; if (Nat.beq f.2.2.1 2 && Nat.beq f.2.2.2.2.1 q.1) = true then (let d := (tk_at E f.2.2.2.1).2.1 + f.2.2.2.2.2 + (tk_B2 E p.1 k).2 + p.2 + q.2; if h ≤ d then h else d) else h) h1
def tk_sh (E : tk_E) (a b : tk_P) : Int := tk_sh1 E b a (tk_sh1 E a b ((tk_B1 E a.1 b.1).2 + a.2 + b.2))
def tk_cat (K : List tk_V) : Nat := (K.map fun a => if Nat.beq a.1 2 = true then 2 else 1).sum
/-- ints or longs copied -/
def tk_acp (KT : Nat → tk_G) (F : List (Nat × Nat × Nat)) (E : tk_E) (K : List tk_V) (M : tk_M) : Option (List tk_V × tk_M) := match K with
  | (1, n) :: (1, q) :: (td, d) :: (1, p) :: (ts, s) :: K' => if (tk_nm E td d && tk_nm E ts s && ((Nat.beq (KT (ts - 10)).1 1 && decide ((KT (ts - 10)).2.2.1 = .int)) || Nat.beq (KT (ts - 10)).1 2) && Nat.beq (KT (td - 10)).1 (KT (ts - 10)).1 && decide ((KT (td - 10)).2.2.1 = (KT (ts - 10)).2.2.1) && (KT (ts - 10)).2.2.2.2.2.1.isEmpty && (KT (td - 10)).2.2.2.2.2.1.isEmpty && kc_sub (KT (ts - 10)).2.2.2.2.1 (KT (td - 10)).2.2.2.2.1 && decide (0 ≤ tk_lo E n ∧ 0 ≤ tk_lo E p ∧ 0 ≤ tk_lo E q ∧ tk_sh E p n ≤ ((KT (ts - 10)).2.2.2.1 : Int) ∧ tk_sh E q n ≤ ((KT (td - 10)).2.2.2.1 : Int)) && Nat.ble (tk_cat K') 8 && tk_iG F (td - 10) 0 (KT (td - 10)).2.2.2.1) = true then some (K', M.filter (fun f => !(Nat.beq f.1.1 td))) else none
  | _ => none
theorem tk_at.lt {E : tk_E} {k : Nat} (h : (tk_at E k).2.2.1 ≠ 0) : k < E.length := by
  by_cases q : k < E.length
  · exact q
  · rw [tk_at.out (by omega)] at h
    exact absurd rfl h
theorem tk_sh1.ok {ρ : Nat → Int} {E : tk_E} {p q : tk_P} {h : Int} (hE : tk_env ρ E) (hh : (ρ p.1 + p.2) + (ρ q.1 + q.2) ≤ h) : (ρ p.1 + p.2) + (ρ q.1 + q.2) ≤ tk_sh1 E p q h := by
  unfold tk_sh1
  dsimp only
  refine tk_fold (fun h => (ρ p.1 + p.2) + (ρ q.1 + q.2) ≤ h) _ _ (fun b k _ hb => ?_) _ ?_
  · split
    · rename_i hc
      rw [Bool.and_eq_true] at hc
      obtain ⟨-, -, -, -, a5⟩ := hE k
      have a5 := a5 (tk_bq hc.1)
      rw [tk_bq hc.2] at a5
      have g1 := (hE (tk_at E k).2.2.2.1).2.1
      obtain ⟨-, g2⟩ := tk_B2.ok hE p.1 k
      split <;> omega
    · exact hb
  · split
    · rename_i hc
      obtain ⟨-, -, -, -, a5⟩ := hE q.1
      have a5 := a5 (tk_bq hc)
      have g1 := (hE (tk_at E q.1).2.2.2.1).2.1
      obtain ⟨-, g2⟩ := tk_B2.ok hE p.1 (tk_at E q.1).2.2.2.2.1
      split <;> omega
    · exact hh
theorem tk_sh.ok {ρ : Nat → Int} {E : tk_E} {a b : tk_P} (hE : tk_env ρ E) : (ρ a.1 + a.2) + (ρ b.1 + b.2) ≤ tk_sh E a b := by
  unfold tk_sh
  obtain ⟨-, g⟩ := tk_B1.ok hE a.1 b.1
  have h1 := tk_sh1.ok (p := a) (q := b) (h := (tk_B1 E a.1 b.1).2 + a.2 + b.2) hE (by omega)
  have h2 := tk_sh1.ok (p := b) (q := a) (h := tk_sh1 E a b ((tk_B1 E a.1 b.1).2 + a.2 + b.2)) hE (by omega)
  omega
theorem tk_cat.ok {ρ : Nat → Int} {B : tk_B} {n : Nat} : ∀ {K : List tk_V} {st : List Value}, tk_stk ρ B n K st → (st.map fun v => v.category).sum = tk_cat K
  | [], [], _ => rfl
  | (t, a) :: K, v :: st, h => by
    have h1 := tk_cat.ok h.2.2
    unfold tk_cat at h1 ⊢
    rw [List.map_cons, List.sum_cons, List.map_cons, List.sum_cons, h1]
    by_cases e : t = 2
    · subst e
      rw [tk_vn.cat2 h.2.1]
      rfl
    · rw [tk_vn.cat1 h.2.1 e, if_neg (fun q => e (tk_bq q))]
  | [], _ :: _, h => absurd h id
  | _ :: _, [], h => absurd h id
/-- a cell more -/
theorem tk_C.push {KT : Nat → tk_G} {tys tys' : List (ClassId × FieldType)} {B : tk_B} {ws : va_W} {q κ : Nat} {e' : va_E} (h : tk_C KT tys B ws) (ht : ∀ (k : Nat) (z : ClassId × FieldType), tys[k]? = some z → tys'[k]? = some z) (he : tk_e tys' (B.1, B.2.1, B.2.2 ++ [(q, κ)]) (KT κ) e') : tk_C KT tys' (B.1, B.2.1, B.2.2 ++ [(q, κ)]) (ws ++ [(q, e')]) := by
  have hle : tk_le B (B.1, B.2.1, B.2.2 ++ [(q, κ)]) := ⟨rfl, rfl, _, rfl⟩
  refine ⟨by simp [h.1], fun j a κ' hj => ?_⟩
  dsimp only at hj
  by_cases l : j < B.2.2.length
  · rw [List.getElem?_append_left l] at hj
    obtain ⟨e0, g1, g2⟩ := h.2 j a κ' hj
    exact ⟨e0, by rw [List.getElem?_append_left (by rw [h.1]; exact l)]; exact g1, g2.up hle ht⟩
  · have e1 : j = B.2.2.length := by
      have := (List.getElem?_eq_some_iff.mp hj).1
      simp at this
      omega
    subst e1
    rw [List.getElem?_append_right (Nat.le_refl _), Nat.sub_self] at hj
    cases hj
    exact ⟨e', by rw [← h.1, List.getElem?_append_right (Nat.le_refl _), Nat.sub_self]; rfl, he⟩
theorem tk_fa.push {B B' : tk_B} {ws : va_W} {tl : va_W} {t : Nat} {zo zi zv : Int} {tv : Nat} (h : tk_fa B ws t zo zi tv zv) (hB : tk_le B B') : tk_fa B' (ws ++ tl) t zo zi tv zv := by
  obtain ⟨j, a, e, w, h1, h2, h3, h4, h5, h6, h7⟩ := h
  exact ⟨j, a, e, w, h1, hB.at h2, h3, by rw [List.getElem?_append_left (List.getElem?_eq_some_iff.mp h4).1]; exact h4, h5, h6, h7.up hB⟩
theorem tk_mem.push {ρ : Nat → Int} {B B' : tk_B} {n : Nat} {ws tl : va_W} {M : tk_M} (h : tk_mem ρ B n ws M) (hB : tk_le B B') : tk_mem ρ B' n (ws ++ tl) M := fun f hf => ⟨(h f hf).1, (h f hf).2.push hB⟩
theorem tk_fr.push {F : List (Nat × Nat × Nat)} {B0 : tk_B} {ws0 ws tl : va_W} (h : tk_fr F B0 ws0 ws) : tk_fr F B0 ws0 (ws ++ tl) := fun j a κ hj => by
  obtain ⟨e0, e, h1, h2, h3⟩ := h j a κ hj
  exact ⟨e0, e, h1, by rw [List.getElem?_append_left (List.getElem?_eq_some_iff.mp h2).1]; exact h2, h3⟩
section TJ
variable {p : Program} {l : Launch} {e : Env} {R : Room} {s : State} {m : MethodId} {args : Array Value} {below : List Frame} {meth : Method} {c : Code} {Q : State → Prop}
variable {cc : ByteArray} {nL : Nat} {D : va_G} {cl : List vw_C} {A : Nat → Prop} {H0 : Heap} {KT : Nat → tk_G} {F : List (Nat × Nat × Nat)} {B0 : tk_B} {ws0 : va_W}
variable {nA : Nat} {ρ0 : Nat → Int}
variable {E E' : tk_E} {L L' K K' : List tk_V} {M M' : tk_M} {cs ss cs' ss' pc : Nat} {Ts : List Jvm.Cond} {own : String} {RC RS : Nat}
/-- a cell more, named on the stack -/
theorem tk_J.cell {ρ : Nat → Int} {B : tk_B} {ws : va_W} {tys tys' : List (ClassId × FieldType)} {H H1 : Heap} {locs locs1 : List Loc} {ls : Array Slot} {lv : List (Nat × Value)} {st st' : List Value} {q κ : Nat} {e' : va_E}
    (k : tk_J p l e R s m args below meth c Q D cl A H0 KT F B0 ws0 nL nA ρ0 pc (E ++ [(1, tk_CAP, 0, 0, 0, 0)], L, (10 + κ, E.length, 0) :: K', M, cs', ss')) (hk : tk_ok D cl A s H0 KT F B0 ws0 nL (E, L, K, M, cs, ss) ρ B ws tys H locs ls lv st) (hg : tk_ag nA ρ0 E.length ρ) (hst' : tk_stk ρ B E.length K' st') (hcs : cs + 1 = cs') (hcap : B0.2.2.length + cs' ≤ 1000000000)
    (hK1 : va_K D cl tys' s) (u1 : va_P D cl (ws ++ [(q, e')]) H1) (u2 : va_D A (ws ++ [(q, e')])) (u3 : va_S A H0 H1 locs1) (ht : ∀ (k : Nat) (z : ClassId × FieldType), tys[k]? = some z → tys'[k]? = some z)
    (hne : tk_e tys' (B.1, B.2.1, B.2.2 ++ [(q, κ)]) (KT κ) e') : W p l e R s m args below meth c H1 locs1 cs' ss' Q (F0 m pc ls (.ref q :: st')) := by
  obtain ⟨hE, h0, hL, hl, hst, hM, hK, hPw, hD, hS, hC, hFr, hLe, hBl⟩ := hk
  dsimp only at hE h0 hL hl hst hM hBl
  have hle : tk_le B (B.1, B.2.1, B.2.2 ++ [(q, κ)]) := ⟨rfl, rfl, _, rfl⟩
  have hE' : tk_env (va_up ρ E.length ((B.2.2.length : Int) + 1)) (E ++ [(1, tk_CAP, 0, 0, 0, 0)]) := hE.pushd (tk_dv.bare (by omega) (by unfold tk_CAP; omega))
  have g1 : ∀ k, k < E.length → va_up ρ E.length ((B.2.2.length : Int) + 1) k = ρ k := fun k hk => va_up_ne _ _ (Nat.ne_of_lt hk)
  have g4 : E.length ≤ (E ++ [((1 : Int), tk_CAP, (0 : Nat), (0 : Nat), (0 : Nat), (0 : Int))]).length := by simp
  refine k _ (B.1, B.2.1, B.2.2 ++ [(q, κ)]) _ tys' H1 locs1 ls lv (.ref q :: st') ⟨hE', ⟨by simp, by rw [g1 _ h0.1]; exact h0.2⟩, hL.ext g1 hle g4, hl, ⟨by simp, ?_, tk_stk.ext g1 hle g4 hst'⟩, (hM.push hle).ext g1 g4, hK1, u1, u2, u3, hC.push ht hne, hFr.push, hLe.tr hle, by dsimp only; rw [List.length_append]; simp; omega⟩ (hg.ext g1 g4)
  refine (tk_vn.ref (show 10 ≤ 10 + κ by omega)).mpr (Or.inr ⟨B.2.2.length, q, rfl, ?_, ?_⟩)
  · dsimp only
    rw [List.getElem?_append_right (Nat.le_refl _), Nat.sub_self, show 10 + κ - 10 = κ by omega]
    rfl
  · dsimp only
    rw [va_up_self]
    omega
set_option maxHeartbeats 4000000 in
theorem tk_nar.ok {t0 : ArrayType} {nk : Option Nat} (h : tk_nar KT nk RC RS t0 E K cs ss = some (E', K', cs', ss')) (hx : p.tables.exec = Jvm.exec) (hb : c.code = cc) (hts : ∀ w ∈ Ts, w.before args s = true) (hAC : ∀ ty : FieldType, ty = .int ∨ ty = .byte ∨ ty = .short ∨ ty = .boolean ∨ ty = .long → Jvm.Cond.arrayClass ty ∈ Ts) (hRC : RC ≤ R.cells) (hRS : RS ≤ R.slots) (hcap : B0.2.2.length + RC ≤ 1000000000) (hA : ∀ q, H0.size ≤ q → A q) (hd : decode cc pc = .ok (.newarray t0, 2))
    (k : tk_J p l e R s m args below meth c Q D cl A H0 KT F B0 ws0 nL nA ρ0 (pc + 2) (E', L, K', M, cs', ss')) : tk_J p l e R s m args below meth c Q D cl A H0 KT F B0 ws0 nL nA ρ0 pc (E, L, K, M, cs, ss) := by
  intro ρ B ws tys H locs ls lv st hk hg
  show W p l e R s m args below meth c H locs cs ss Q (F0 m pc ls st)
  have hE : tk_env ρ E := hk.1
  have hst : tk_stk ρ B E.length K st := hk.2.2.2.2.1
  have hg : tk_ag nA ρ0 E.length ρ := hg
  obtain ⟨hK, hPw, hD, hS, hC, hFr, hLe, hBl⟩ := hk.2.2.2.2.2.2
  unfold tk_nar at h
  split at h
  · rename_i a K2 κ
    split at h
    · rename_i hc
      simp only [Bool.and_eq_true, decide_eq_true_eq] at hc
      obtain ⟨⟨⟨⟨⟨⟨⟨c1, c2⟩, c3⟩, c4⟩, c5⟩, c6⟩, c7⟩, c8⟩ := hc
      have c1 := tk_con.eq c1
      have c3 := Nat.le_of_ble_eq_true c3
      have c4 := Nat.le_of_ble_eq_true c4
      have c5 := Nat.le_of_ble_eq_true c5
      have c7 : (KT κ).2.2.2.2.2.1 = [] := List.isEmpty_iff.mp c7
      obtain ⟨v, st', rfl, hlt, ⟨x, rfl, ex⟩, hst'⟩ := tk_stk.uncons hst
      have hbn := hE.at a
      dsimp only at ex
      obtain ⟨x1, x2⟩ := kc_i32nn (x := x) (z := ((KT κ).2.2.2.1 : Int)) (by omega) (by omega)
      rw [Int.toNat_natCast] at x2
      have ele : ∀ (cA : ClassId) (B' : tk_B), (KT κ).2.2.1 = .int ∨ (KT κ).2.2.1 = .short → tk_e (tys ++ [(cA, (KT κ).2.2.1)]) B' (KT κ) (.inl (cA, (KT κ).2.2.2.1, .inl (fun _ => 0))) := fun cA B' _ => by
        unfold tk_e
        rw [tk_bq c6]
        refine ⟨cA, tys.length, _, rfl, by simp, fun j _ => ?_⟩
        rw [c7]
        exact tk_t.sub c8 ⟨0, Int.le_refl _, Int.le_refl _, 0, rfl, rfl⟩
      split at h
      · split at h
        · rename_i hty
          cases h
          refine va_newa (atype := .int) (ty := .int) (a0 := ((KT κ).2.2.2.1, .inl (fun _ => 0))) hx hb (hts _ (hAC .int (by simp))) rfl hK hPw hD hS hA (fun _ => rfl) x1 x2 (by show _ * 4 ≤ _; omega) (by omega) (by omega) hd (fun q cA H1 v1 u1 u2 u3 => tk_J.cell k hk hg hst' rfl (by omega) v1 u1 u2 u3 kc_tys_app ?_)
          have := ele cA (B.1, B.2.1, B.2.2 ++ [(q, κ)]) (Or.inl hty)
          rw [hty] at this
          exact this
        · cases h
      · split at h
        · rename_i hty
          cases h
          refine va_newa (atype := .short) (ty := .short) (a0 := ((KT κ).2.2.2.1, .inl (fun _ => 0))) hx hb (hts _ (hAC .short (by simp))) rfl hK hPw hD hS hA (fun _ => rfl) x1 x2 (by show _ * 2 ≤ _; omega) (by omega) (by omega) hd (fun q cA H1 v1 u1 u2 u3 => tk_J.cell k hk hg hst' rfl (by omega) v1 u1 u2 u3 kc_tys_app ?_)
          have := ele cA (B.1, B.2.1, B.2.2 ++ [(q, κ)]) (Or.inr hty)
          rw [hty] at this
          exact this
        · cases h
      · cases h
    · cases h
  · cases h
theorem tk_ldc.ok {kw : Nat → Option (Nat × Int)} {t ix n : Nat} {v : Int} {i : Instr} (h : kw ix = some (t, v)) (hi : t = 1 ∧ i = .ldc ix ∧ n = 2 ∨ t = 1 ∧ i = .ldc_w ix ∧ n = 3 ∨ t = 2 ∧ i = .ldc2_w ix ∧ n = 3) (hx : p.tables.exec = Jvm.exec) (hb : c.code = cc) (hown : s.vm.findClass own = some m.cls) (hts : ∀ w ∈ Ts, w.before args s = true) (hKL : kc_KL own Ts kw) (hd : decode cc pc = .ok (i, n))
    (k : tk_J p l e R s m args below meth c Q D cl A H0 KT F B0 ws0 nL nA ρ0 (pc + n) (E, L, (t, 0, v) :: K, M, cs, ss)) : tk_J p l e R s m args below meth c Q D cl A H0 KT F B0 ws0 nL nA ρ0 pc (E, L, K, M, cs, ss) := by
  intro ρ B ws tys H locs ls lv st hk hg
  have h0 : 0 < E.length ∧ ρ 0 = 0 := hk.2.1
  have hst : tk_stk ρ B E.length K st := hk.2.2.2.2.1
  have hg : tk_ag nA ρ0 E.length ρ := hg
  rcases hi with ⟨rfl, rfl, rfl⟩ | ⟨rfl, rfl, rfl⟩ | ⟨rfl, rfl, rfl⟩
  · obtain ⟨x, rfl, hw⟩ := hKL.1 _ _ h
    exact lv_ldc hx hb hown (hts _ hw) hd (tk_J.old k hk hg hst h0.1 ⟨x, rfl, by dsimp only; omega⟩)
  · obtain ⟨x, rfl, hw⟩ := hKL.1 _ _ h
    exact lv_ldcw hx hb hown (hts _ hw) hd (tk_J.old k hk hg hst h0.1 ⟨x, rfl, by dsimp only; omega⟩)
  · obtain ⟨x, rfl, hw⟩ := hKL.2 _ _ h
    exact lv_ldc2 hx hb hown (hts _ hw) hd (tk_J.old k hk hg hst h0.1 ⟨x, rfl, by dsimp only; omega⟩)
theorem tk_x1.okw {j : Nat} {n : Int} (h : tk_x1 nL (.iinc j n) E L K = some (E', L', K')) (hx : p.tables.exec = Jvm.exec) (hb : c.code = cc) (hd : decode cc pc = .ok (.iinc j n, 6))
    (k : tk_J p l e R s m args below meth c Q D cl A H0 KT F B0 ws0 nL nA ρ0 (pc + 6) (E', L', K', M, cs, ss)) : tk_J p l e R s m args below meth c Q D cl A H0 KT F B0 ws0 nL nA ρ0 pc (E, L, K, M, cs, ss) := by
  intro ρ B ws tys H locs ls lv st hk hg
  have hE : tk_env ρ E := hk.1
  have h0 : 0 < E.length ∧ ρ 0 = 0 := hk.2.1
  have hst : tk_stk ρ B E.length K st := hk.2.2.2.2.1
  have hg : tk_ag nA ρ0 E.length ρ := hg
  unfold tk_x1 at h
  dsimp only at h
  split at h
  · rename_i hj
    cases hq : tk_load L 1 j with
    | none => rw [hq] at h; cases h
    | some a =>
      rw [hq] at h; cases h
      obtain ⟨ha, ht⟩ := tk_load.of hq
      obtain ⟨v, hm, hls, hlt, hv⟩ := tk_local hk ha (by rw [ht]; decide)
      obtain ⟨t, a⟩ := a
      cases ht
      obtain ⟨x, rfl, ex⟩ := hv
      obtain ⟨q, hq2⟩ := List.getElem?_of_mem hm
      obtain ⟨ρ', g1, g3, g4, g5, g6⟩ := tk_iadd (a := a) (b := (0, n)) (x := x) (y := Int32.ofInt n) hE h0 hlt h0.1 ex (by dsimp only; rw [kc_cst32 (by omega) (by omega)]; omega)
      exact lv_iincW hx hb hd hk.2.2.2.1 hq2 rfl hj.1 rfl (fun ls' hl' => tk_J.mv k hk hg g1 g3 g4 (tk_loc.st1 (a := (1, (tk_add 1 E a (0, n)).2)) (hk.2.2.1.ext g1 (tk_le.rf B) g4) g5 ⟨_, rfl, g6.symm⟩) hl' (tk_stk.ext g1 (tk_le.rf B) g4 hst) (hk.2.2.2.2.2.1.ext g1 g4))
  · cases h
set_option maxHeartbeats 4000000 in
theorem tk_acp.ok {ix : Nat} (h : tk_acp KT F E K M = some (K', M')) (hx : p.tables.exec = Jvm.exec) (hb : c.code = cc) (hml : c.maxLocals = nL) (hown : s.vm.findClass own = some m.cls) (hlink : (Cond.methodLink own ix arraycopyName).before args s = true) (hnat : (Cond.native arraycopyName).before args s = true) (hstat : (Cond.static arraycopyName).before args s = true) (hini : (Cond.initialized "java/lang/System").before args s = true)
    (hframes : 1 ≤ R.frames) (hlocals : 8 + (nativeFrameWords "java/lang/System" "arraycopy" 5 + 11) ≤ R.locals) (hd : decode cc pc = .ok (.invokestatic ix, 3))
    (k : tk_J p l e R s m args below meth c Q D cl A H0 KT F B0 ws0 nL nA ρ0 (pc + 3) (E, L, K', M', cs, ss)) : tk_J p l e R s m args below meth c Q D cl A H0 KT F B0 ws0 nL nA ρ0 pc (E, L, K, M, cs, ss) := by
  intro ρ B ws tys H locs ls lv st hk hg
  have hst : tk_stk ρ B E.length K st := hk.2.2.2.2.1
  have hg : tk_ag nA ρ0 E.length ρ := hg
  obtain ⟨hE, h0, hL, hl, -, hM, hK, hPw, hD, hS, hC, hFr, hLe, hBl⟩ := id hk
  dsimp only at hE h0 hL hl hM hBl
  unfold tk_acp at h
  split at h
  · rename_i n q td d pp ts s2 K2
    split at h
    · rename_i hc
      cases h
      simp only [Bool.and_eq_true, decide_eq_true_eq] at hc
      obtain ⟨⟨⟨⟨⟨⟨⟨⟨⟨⟨c1, c2⟩, c3⟩, c4⟩, c6⟩, c7⟩, c8⟩, c9⟩, c10⟩, c11⟩, c12⟩ := hc
      have c4 := tk_bq c4
      have c7 : (KT (ts - 10)).2.2.2.2.2.1 = [] := List.isEmpty_iff.mp c7
      have c8 : (KT (td - 10)).2.2.2.2.2.1 = [] := List.isEmpty_iff.mp c8
      have c11 := Nat.le_of_ble_eq_true c11
      obtain ⟨v1, st1, rfl, -, ⟨xl, rfl, exl⟩, hst1⟩ := tk_stk.uncons hst
      obtain ⟨v2, st2, rfl, -, ⟨xq, rfl, exq⟩, hst2⟩ := tk_stk.uncons hst1
      obtain ⟨v3, st3, rfl, hlt3, hv3, hst3⟩ := tk_stk.uncons hst2
      obtain ⟨v4, st4, rfl, -, ⟨xp, rfl, exp⟩, hst4⟩ := tk_stk.uncons hst3
      obtain ⟨v5, st5, rfl, -, hv5, hst5⟩ := tk_stk.uncons hst4
      obtain ⟨ht1, j1, ad1, rfl, hB1, hz1⟩ := tk_nm.ok hE c2 hv5
      obtain ⟨ht, j, ad, rfl, hB, hz⟩ := tk_nm.ok hE c1 hv3
      obtain ⟨e3, w1, w3⟩ := hC.2 _ _ _ hB1
      obtain ⟨e4, w1', w3'⟩ := hC.2 _ _ _ hB
      have b1 := hE.at n
      have b2 := hE.at q
      have b3 := hE.at pp
      have s1 := tk_sh.ok (a := pp) (b := n) hE
      have s3 := tk_sh.ok (a := q) (b := n) hE
      dsimp only at exl exq exp
      have nn : ∀ z : Int32, 0 ≤ z.toInt → ¬ z < 0 ∧ (z.toNatClampNeg : Int) = z.toInt := fun z hz => ⟨fun q => by
        have := Int32.lt_iff_toInt_lt.mp q
        have h9 : (0 : Int32).toInt = 0 := rfl
        omega, Int32.cast_toNatClampNeg z (by rw [Int32.le_iff_toInt_le]; exact hz)⟩
      obtain ⟨l1, l2⟩ := nn xl (by omega)
      obtain ⟨q1, q2⟩ := nn xq (by omega)
      obtain ⟨p1, p2⟩ := nn xp (by omega)
      have hmem : ∀ e' : va_E, tk_mem ρ B E.length (ws.set j (ad, e')) (M.filter (fun f => !(Nat.beq f.1.1 td))) := fun e' f hf => by
        obtain ⟨g1, g2⟩ := List.mem_filter.mp hf
        refine ⟨(hM f g1).1, tk_fa.set (P := fun _ => True) (hM f g1).2 hB w1' (fun _ hq => absurd trivial hq) (fun et _ => ?_)⟩
        rw [show Nat.beq f.1.1 td = true by rw [et, show 10 + (td - 10) = td by omega]; exact Nat.beq_refl _] at g2
        cases g2
      have fin : ∀ (e' : va_E) (H1 : Heap) (locs1 : List Loc), tk_e tys B (KT (td - 10)) e' → (∀ i, ¬ i < (KT (td - 10)).2.2.2.1 → tk_pl e' i = tk_pl e4 i) → va_P D cl (ws.set j (ad, e')) H1 → va_D A (ws.set j (ad, e')) → va_S A H0 H1 locs1 → W p l e R s m args below meth c H1 locs1 cs ss Q (F0 m (pc + 3) ls st5) := fun e' H1 locs1 u0 hch u1 u2 u3 =>
        k ρ B _ tys H1 locs1 ls lv st5 ⟨hE, h0, hL, hl, hst5, hmem e', hK, u1, u2, u3, hC.set hB u0, hFr.set (P := fun i => i < (KT (td - 10)).2.2.2.1) hLe hB w1' (fun i hi => tk_iG.ok c12 (Nat.zero_le _) (Nat.le_of_lt hi)) (fun i hi => hch i hi), hLe, hBl⟩ hg
      unfold tk_e at w3 w3'
      rw [Bool.or_eq_true, Bool.and_eq_true] at c3
      rcases c3 with ⟨d1, d2⟩ | d1
      · have d1 := tk_bq d1
        have d2 := of_decide_eq_true d2
        rw [d1] at w3
        rw [c4, d1] at w3'
        obtain ⟨cA, t0, h1, rfl, w4, w7⟩ := w3
        obtain ⟨cA', t0', h2, rfl, w4', w7'⟩ := w3'
        rw [c6, d2] at w4'
        rw [d2] at w4
        refine va_copyi hx hb (hml.trans hl.1.symm) hown hlink hnat hstat hini hK hPw hD hS j1 j t0 t0' w1 w1' w4 w4' rfl p1 q1 l1 (by omega) (by omega) (fun _ _ => rfl) hframes (by rw [tk_cat.ok hst5]; omega) hd (fun H1 locs1 u1 u2 u3 => fin _ H1 locs1 ?_ (fun i hi => ?_) u1 u2 u3)
        · unfold tk_e
          rw [c4, d1]
          refine ⟨cA', t0', _, rfl, by rw [c6, d2]; exact w4', fun i hi => ?_⟩
          by_cases hin : xq.toNatClampNeg ≤ i ∧ i < xq.toNatClampNeg + xl.toNatClampNeg
          · rw [pk_cpy_in hin.1 hin.2]
            have h9 := w7 (xp.toNatClampNeg + (i - xq.toNatClampNeg)) (by omega)
            rw [c7] at h9
            rw [c8]
            exact tk_t.sub c9 h9
          · rw [pk_cpy_out (by omega)]
            exact w7' i hi
        · unfold tk_pl
          dsimp only
          rw [if_neg hi, if_neg hi]
      · have d1 := tk_bq d1
        rw [d1] at w3
        rw [c4, d1] at w3'
        obtain ⟨cA, t0, h1, rfl, w4, w7⟩ := w3
        obtain ⟨cA', t0', h2, rfl, w4', w7'⟩ := w3'
        refine va_copyl hx hb (hml.trans hl.1.symm) hown hlink hnat hstat hini hK hPw hD hS j1 j t0 t0' w1 w1' w4 w4' rfl p1 q1 l1 (by omega) (by omega) (fun _ _ => rfl) hframes (by rw [tk_cat.ok hst5]; omega) hd (fun H1 locs1 u1 u2 u3 => fin _ H1 locs1 ?_ (fun i hi => ?_) u1 u2 u3)
        · unfold tk_e
          rw [c4, d1]
          refine ⟨cA', t0', _, rfl, w4', fun i hi => ?_⟩
          by_cases hin : xq.toNatClampNeg ≤ i ∧ i < xq.toNatClampNeg + xl.toNatClampNeg
          · rw [pk_cpy_in hin.1 hin.2]
            have h9 := w7 (xp.toNatClampNeg + (i - xq.toNatClampNeg)) (by omega)
            rw [c7] at h9
            rw [c8]
            exact tk_t.sub c9 h9
          · rw [pk_cpy_out (by omega)]
            exact w7' i hi
        · unfold tk_pl
          dsimp only
          rw [if_neg hi, if_neg hi]
    · cases h
  · cases h
end TJ
