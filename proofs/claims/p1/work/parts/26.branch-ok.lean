section KF
variable {p : Program} {l : Launch} {e : Env} {R : Room} {s : State} {m : MethodId} {args : Array Value} {below : List Frame} {meth : Method} {c : Code} {Q : State → Prop}
variable {cc : ByteArray} {nL : Nat} {D : va_G} {cl : List vw_C} {A : Nat → Prop} {RT : List ka_R} {av : List Nat} {H0 : Heap}
variable {Γ0 : Nat → Option Nat} {nA : Nat} {ρ0 : Nat → Int} {α0 : Nat → Nat}
variable {E : ka_E} {L K K' : List ka_V} {pd : List (Nat × List Nat)} {cs ss pc : Nat} {ρ : Nat → Int} {α : Nat → Nat} {Γ : Nat → Option Nat} {P : Nat → Nat → Prop} {ws : va_W} {tys : List (ClassId × FieldType)} {H : Heap} {locs : List Loc} {ls : Array Slot} {lv : List (Nat × Value)} {st st' : List Value}
/-- bounds narrowed, all else as it is -/
theorem ka_J.nar {E' : ka_E} (k : ka_J p l e R s m args below meth c Q D cl A RT H0 av nL Γ0 nA ρ0 α0 pc (E', L, K', pd, cs, ss)) (hk : ka_ok D cl A RT s H0 av nL E L K pd ρ α Γ P ws tys H locs ls lv st) (hn : nA ≤ E.length) (hΓ : ∀ b r, Γ0 b = some r → Γ b = some r) (hρ : ∀ k, k < nA → ρ k = ρ0 k ∧ α k = α0 k)
    (hE' : ka_env ρ E') (hl : E'.length = E.length) (hK : ka_stk ρ α Γ E.length K' st') : W p l e R s m args below meth c H locs cs ss Q (F0 m pc ls st') := by
  refine ka_J.mv k hk hn hΓ hρ (fun _ _ => rfl) (fun _ _ => rfl) hE' (by omega) ?_ hk.2.2.2.1 ?_
  · rw [hl]; exact hk.2.2.1
  · rw [hl]; exact hK
theorem ka_J.sc {r tgt : Nat} {a b : ka_V} (k : ∀ q ∈ ka_sc r tgt E a b K', ka_J p l e R s m args below meth c Q D cl A RT H0 av nL Γ0 nA ρ0 α0 q.1 (q.2.1, L, q.2.2, pd, cs, ss)) (hk : ka_ok D cl A RT s H0 av nL E L K pd ρ α Γ P ws tys H locs ls lv st) (hn : nA ≤ E.length) (hΓ : ∀ b r, Γ0 b = some r → Γ b = some r) (hρ : ∀ k, k < nA → ρ k = ρ0 k ∧ α k = α0 k)
    (hr : ka_rel r (ρ a.2.1 + a.2.2) (ρ b.2.1 + b.2.2)) (hK : ka_stk ρ α Γ E.length K' st') : W p l e R s m args below meth c H locs cs ss Q (F0 m tgt ls st') := by
  have hE' := ka_cn.ok hk.1 hr
  have h1 : ka_sc r tgt E a b K' = [(tgt, ka_cn r E a b, K')] := by
    unfold ka_sc
    rw [ka_emp.no hE', ka_emp.no hE', ka_dead.no hr]
    rfl
  rw [h1] at k
  exact ka_J.nar (k _ List.mem_cons_self) hk hn hΓ hρ hE' (ka_cn.len _ _ _ _) hK
theorem ka_up.at {o : Int} (h : ka_up pc o = true) : (pc : Int) + o = (((pc : Int) + o).toNat : Int) := (Int.toNat_of_nonneg (of_decide_eq_true h)).symm
theorem ka_J.tab {a : ka_V} {x : Int} (hx0 : x = ρ a.2.1 + a.2.2) (hk : ka_ok D cl A RT s H0 av nL E L K pd ρ α Γ P ws tys H locs ls lv st) (hn : nA ≤ E.length) (hΓ : ∀ b r, Γ0 b = some r → Γ b = some r) (hρ : ∀ k, k < nA → ρ k = ρ0 k ∧ α k = α0 k) (hK : ka_stk ρ α Γ E.length K' st') : ∀ (os : List Int) (k : Int), (∀ q ∈ ka_tab pc E a K' k os, ka_J p l e R s m args below meth c Q D cl A RT H0 av nL Γ0 nA ρ0 α0 q.1 (q.2.1, L, q.2.2, pd, cs, ss)) → ∀ (j : Nat) (o : Int), os[j]? = some o → x = k + j → W p l e R s m args below meth c H locs cs ss Q (F0 m ((pc : Int) + o).toNat ls st')
  | [], _, _, j, o, ho, _ => by simp at ho
  | o1 :: os, k, hq, 0, o, ho, hj => by
    cases ho
    refine ka_J.sc (fun q h => hq q (List.mem_append.mpr (Or.inl h))) hk hn hΓ hρ ?_ hK
    have := hk.2.1.2
    show ρ a.2.1 + a.2.2 = ρ 0 + k
    omega
  | o1 :: os, k, hq, j + 1, o, ho, hj => ka_J.tab hx0 hk hn hΓ hρ hK os (k + 1) (fun q h => hq q (List.mem_append.mpr (Or.inr h))) j o (by simpa using ho) (by omega)
theorem ka_lkn.ok {a : ka_V} {x : Int} (hx0 : x = ρ a.2.1 + a.2.2) (h0 : ρ 0 = 0) : ∀ (os : List (Int × Int)) {E : ka_E}, ka_env ρ E → (∀ q ∈ os, q.1 ≠ x) → ka_env ρ (ka_lkn E a os) ∧ (ka_lkn E a os).length = E.length
  | [], _, h, _ => ⟨h, rfl⟩
  | o :: os, E, h, hq => by
    have h1 : ka_env ρ (ka_cn 1 E a (1, 0, o.1)) := ka_cn.ok h (by
      have := hq o List.mem_cons_self
      show ρ a.2.1 + a.2.2 ≠ ρ 0 + o.1
      omega)
    obtain ⟨g1, g2⟩ := ka_lkn.ok hx0 h0 os h1 (fun q h => hq q (List.mem_cons_of_mem _ h))
    exact ⟨g1, g2.trans (ka_cn.len _ _ _ _)⟩
theorem ka_J.lks {a : ka_V} {x : Int} {dflt : Int} (hx0 : x = ρ a.2.1 + a.2.2) (hk : ka_ok D cl A RT s H0 av nL E L K pd ρ α Γ P ws tys H locs ls lv st) (hn : nA ≤ E.length) (hΓ : ∀ b r, Γ0 b = some r → Γ b = some r) (hρ : ∀ k, k < nA → ρ k = ρ0 k ∧ α k = α0 k) (hK : ka_stk ρ α Γ E.length K' st') : ∀ (os : List (Int × Int)), (∀ q ∈ ka_lks pc E a K' os, ka_J p l e R s m args below meth c Q D cl A RT H0 av nL Γ0 nA ρ0 α0 q.1 (q.2.1, L, q.2.2, pd, cs, ss)) → (∃ q ∈ os, q.1 = x) → W p l e R s m args below meth c H locs cs ss Q (F0 m ((pc : Int) + Op.lookupswitch.offset os dflt x).toNat ls st')
  | [], _, h => by obtain ⟨q, h, -⟩ := h; cases h
  | o1 :: os, hq, h => by
    by_cases e1 : o1.1 = x
    · rw [show o1 = (o1.1, o1.2) from rfl, Op.lookupswitch.offset_cons, if_pos e1]
      refine ka_J.sc (fun q h => hq q (List.mem_append.mpr (Or.inl h))) hk hn hΓ hρ ?_ hK
      have := hk.2.1.2
      show ρ a.2.1 + a.2.2 = ρ 0 + o1.1
      omega
    · rw [show o1 = (o1.1, o1.2) from rfl, Op.lookupswitch.offset_cons, if_neg e1]
      refine ka_J.lks hx0 hk hn hΓ hρ hK os (fun q h => hq q (List.mem_append.mpr (Or.inr h))) ?_
      obtain ⟨q, h1, h2⟩ := h
      rcases List.mem_cons.mp h1 with h3 | h3
      · subst h3; exact absurd h2 e1
      · exact ⟨q, h3, h2⟩
theorem ka_lk_none {dflt x : Int} : ∀ (os : List (Int × Int)), (∀ q ∈ os, q.1 ≠ x) → Op.lookupswitch.offset os dflt x = dflt
  | [], _ => rfl
  | o1 :: os, h => by
    rw [show o1 = (o1.1, o1.2) from rfl, Op.lookupswitch.offset_cons, if_neg (h o1 List.mem_cons_self)]
    exact ka_lk_none os (fun q h1 => h q (List.mem_cons_of_mem _ h1))
theorem ka_lk_some {dflt x : Int} {pc : Nat} : ∀ (os : List (Int × Int)), os.all (fun q => ka_up pc q.2) = true → (∃ q ∈ os, q.1 = x) → ka_up pc (Op.lookupswitch.offset os dflt x) = true
  | [], _, h => by obtain ⟨q, h, -⟩ := h; cases h
  | o1 :: os, ha, h => by
    rw [List.all_cons, Bool.and_eq_true] at ha
    by_cases e1 : o1.1 = x
    · rw [show o1 = (o1.1, o1.2) from rfl, Op.lookupswitch.offset_cons, if_pos e1]
      exact ha.1
    · rw [show o1 = (o1.1, o1.2) from rfl, Op.lookupswitch.offset_cons, if_neg e1]
      refine ka_lk_some os ha.2 ?_
      obtain ⟨q, h1, h2⟩ := h
      rcases List.mem_cons.mp h1 with h3 | h3
      · subst h3; exact absurd h2 e1
      · exact ⟨q, h3, h2⟩
theorem ka_i0 : (0 : Int32).toInt = 0 := rfl
def ka_l2 (i : Instr) (len : Nat) : Bool := match i with
  | .tableswitch _ _ _ _ => true
  | .lookupswitch _ _ => true
  | _ => decide (len = 3)
theorem ka_relI {x y : Int32} {u v : Int} (ex : x.toInt = u) (ey : y.toInt = v) : (x = y ↔ u = v) ∧ (x < y ↔ u < v) ∧ (y ≤ x ↔ v ≤ u) ∧ (y < x ↔ v < u) ∧ (x ≤ y ↔ u ≤ v) := by
  subst ex; subst ey
  exact ⟨Int32.toInt_inj.symm, Int32.lt_iff_toInt_lt, Int32.le_iff_toInt_le, Int32.lt_iff_toInt_lt, Int32.le_iff_toInt_le⟩
/-- an int compared with another: two roads -/
theorem ka_icmp {q : Jvm.ClassFile.Cond} {o : Int} {tgt : Nat} {x y : Int32} {u v : Int} {rest : List Value} (ex : x.toInt = u) (ey : y.toInt = v) (hx : p.tables.exec = Jvm.exec) (hb : c.code = cc) (hd : decode cc pc = .ok (.if_icmp q o, 3)) (ht : (pc : Int) + o = (tgt : Int))
    (kt : ka_rel (ka_code q) u v → W p l e R s m args below meth c H locs cs ss Q (F0 m tgt ls rest)) (kf : ka_rel (ka_neg (ka_code q)) u v → W p l e R s m args below meth c H locs cs ss Q (F0 m (pc + 3) ls rest)) : W p l e R s m args below meth c H locs cs ss Q (F0 m pc ls (.int y :: .int x :: rest)) := by
  obtain ⟨g1, g2, g3, g4, g5⟩ := ka_relI ex ey
  cases q with
  | eq => exact lv_icmp_eq hx hb hd ht (fun h => kt (g1.mp h)) (fun h => kf (fun q => h (g1.mpr q)))
  | ne => exact lv_icmp_ne hx hb hd ht (fun h => kt (fun q => h (g1.mpr q))) (fun h => kf (g1.mp h))
  | lt => exact lv_icmp_lt hx hb hd ht (fun h => kt (g2.mp h)) (fun h => kf (by have : ¬ u < v := fun q => h (g2.mpr q); show v ≤ u; omega))
  | ge => exact lv_icmp_ge hx hb hd ht (fun h => kt (g3.mp h)) (fun h => kf (by have : ¬ v ≤ u := fun q => h (g3.mpr q); show u < v; omega))
  | gt => exact lv_icmp_gt hx hb hd ht (fun h => kt (g4.mp h)) (fun h => kf (by have : ¬ v < u := fun q => h (g4.mpr q); show u ≤ v; omega))
  | le => exact lv_icmp_le hx hb hd ht (fun h => kt (g5.mp h)) (fun h => kf (by have : ¬ u ≤ v := fun q => h (g5.mpr q); show v < u; omega))
theorem ka_if0 {q : Jvm.ClassFile.Cond} {o : Int} {tgt : Nat} {x : Int32} {u v : Int} {rest : List Value} (ex : x.toInt = u) (ey : v = 0) (hx : p.tables.exec = Jvm.exec) (hb : c.code = cc) (hd : decode cc pc = .ok (.ifCond q o, 3)) (ht : (pc : Int) + o = (tgt : Int))
    (kt : ka_rel (ka_code q) u v → W p l e R s m args below meth c H locs cs ss Q (F0 m tgt ls rest)) (kf : ka_rel (ka_neg (ka_code q)) u v → W p l e R s m args below meth c H locs cs ss Q (F0 m (pc + 3) ls rest)) : W p l e R s m args below meth c H locs cs ss Q (F0 m pc ls (.int x :: rest)) := by
  obtain ⟨g1, g2, g3, g4, g5⟩ := ka_relI (y := 0) ex (ka_i0.trans ey.symm)
  cases q with
  | eq => exact lv_if_eq hx hb hd ht (fun h => kt (g1.mp h)) (fun h => kf (fun q => h (g1.mpr q)))
  | ne => exact lv_if_ne hx hb hd ht (fun h => kt (fun q => h (g1.mpr q))) (fun h => kf (g1.mp h))
  | lt => exact lv_if_lt hx hb hd ht (fun h => kt (g2.mp h)) (fun h => kf (by have : ¬ u < v := fun q => h (g2.mpr q); show v ≤ u; omega))
  | ge => exact lv_if_ge hx hb hd ht (fun h => kt (g3.mp h)) (fun h => kf (by have : ¬ v ≤ u := fun q => h (g3.mpr q); show u < v; omega))
  | gt => exact lv_if_gt hx hb hd ht (fun h => kt (g4.mp h)) (fun h => kf (by have : ¬ v < u := fun q => h (g4.mpr q); show u ≤ v; omega))
  | le => exact lv_if_le hx hb hd ht (fun h => kt (g5.mp h)) (fun h => kf (by have : ¬ u ≤ v := fun q => h (g5.mpr q); show v < u; omega))
set_option maxHeartbeats 4000000 in
theorem ka_x2.ok {i : Instr} {len : Nat} {succ : List ka_N} (h : ka_x2 i pc E K = some succ) (hx : p.tables.exec = Jvm.exec) (hb : c.code = cc) (hd : decode cc pc = .ok (i, len)) (hlen : ka_l2 i len = true)
    (k : ∀ q ∈ succ, ka_J p l e R s m args below meth c Q D cl A RT H0 av nL Γ0 nA ρ0 α0 q.1 (q.2.1, L, q.2.2, pd, cs, ss)) : ka_J p l e R s m args below meth c Q D cl A RT H0 av nL Γ0 nA ρ0 α0 pc (E, L, K, pd, cs, ss) := by
  intro ρ α Γ P ws tys H locs ls lv st hk hn hΓ hρ
  have h0 : 0 < E.length ∧ ρ 0 = 0 := hk.2.1
  have hst : ka_stk ρ α Γ E.length K st := hk.2.2.2.2.1
  unfold ka_x2 at h
  split at h
  · cases of_decide_eq_true hlen
    split at h
    · rename_i ho
      cases h
      exact lv_goto hx hb hd (ka_up.at ho) (ka_J.go (k _ List.mem_cons_self) hk hn hΓ hρ hst)
    · cases h
  · cases of_decide_eq_true hlen
    split at h
    · rename_i n d K2
      split at h
      · rename_i ho
        cases h
        obtain ⟨v, st', rfl, hlt, ⟨x, rfl, ex⟩, hst'⟩ := ka_stk.uncons hst
        exact ka_if0 ex (show ρ 0 + 0 = 0 by omega) hx hb hd (ka_up.at ho) (fun hr => ka_J.sc (fun q h => k q (List.mem_append.mpr (Or.inl h))) hk hn hΓ hρ hr hst') (fun hr => ka_J.sc (fun q h => k q (List.mem_append.mpr (Or.inr h))) hk hn hΓ hρ hr hst')
      · cases h
    · cases h
  · cases of_decide_eq_true hlen
    split at h
    · rename_i n2 d2 n1 d1 K2
      split at h
      · rename_i ho
        cases h
        obtain ⟨v, st', rfl, hlt, ⟨x, rfl, ex⟩, hst'⟩ := ka_stk.uncons hst
        obtain ⟨v2, st2, rfl, hlt2, ⟨x2, rfl, ex2⟩, hst2⟩ := ka_stk.uncons hst'
        exact ka_icmp ex2 ex hx hb hd (ka_up.at ho) (fun hr => ka_J.sc (fun q h => k q (List.mem_append.mpr (Or.inl h))) hk hn hΓ hρ hr hst2) (fun hr => ka_J.sc (fun q h => k q (List.mem_append.mpr (Or.inr h))) hk hn hΓ hρ hr hst2)
      · cases h
    · cases h
  · cases of_decide_eq_true hlen
    split at h
    · rename_i n d K2
      split at h
      · rename_i ho
        cases h
        obtain ⟨v, st', rfl, hlt, hv, hst'⟩ := ka_stk.uncons hst
        rcases hv with ⟨rfl, ex⟩ | ⟨r, rfl, -, ex⟩
        · exact lv_ifnullN hx hb hd (ka_up.at ho) (ka_J.sc (fun q h => k q (List.mem_append.mpr (Or.inl h))) hk hn hΓ hρ (by show ρ n + d = ρ 0 + 0; dsimp only at ex; omega) hst')
        · exact lv_ifnull hx hb hd (ka_J.sc (fun q h => k q (List.mem_append.mpr (Or.inr h))) hk hn hΓ hρ (by show ρ 0 + 0 < ρ n + d; dsimp only at ex; omega) hst')
      · cases h
    · cases h
  · cases of_decide_eq_true hlen
    split at h
    · rename_i n d K2
      split at h
      · rename_i ho
        cases h
        obtain ⟨v, st', rfl, hlt, hv, hst'⟩ := ka_stk.uncons hst
        rcases hv with ⟨rfl, ex⟩ | ⟨r, rfl, -, ex⟩
        · exact lv_ifnonnullN hx hb hd (ka_J.sc (fun q h => k q (List.mem_append.mpr (Or.inr h))) hk hn hΓ hρ (by show ρ n + d = ρ 0 + 0; dsimp only at ex; omega) hst')
        · exact lv_ifnonnull hx hb hd (ka_up.at ho) (ka_J.sc (fun q h => k q (List.mem_append.mpr (Or.inl h))) hk hn hΓ hρ (by show ρ 0 + 0 < ρ n + d; dsimp only at ex; omega) hst')
      · cases h
    · cases h
  · rename_i o lo hi os
    split at h
    · rename_i n d K2
      split at h
      · rename_i ho
        rw [Bool.and_eq_true, Bool.and_eq_true] at ho
        have hsz := of_decide_eq_true ho.2
        have ho := ho.1
        cases h
        obtain ⟨v, st', rfl, hlt, ⟨x, rfl, ex⟩, hst'⟩ := ka_stk.uncons hst
        have kt : ∀ q ∈ ka_tab pc E (1, n, d) K2 lo os.toList, ka_J p l e R s m args below meth c Q D cl A RT H0 av nL Γ0 nA ρ0 α0 q.1 (q.2.1, L, q.2.2, pd, cs, ss) := fun q h => k q (List.mem_append.mpr (Or.inl h))
        by_cases c1 : x.toInt < lo
        · exact lv_tableOut hx hb hd (Or.inl c1) (ka_up.at ho.1) (ka_J.sc (fun q h => k q (List.mem_append.mpr (Or.inr (List.mem_append.mpr (Or.inl h))))) hk hn hΓ hρ (by show ρ n + d < ρ 0 + lo; dsimp only at ex; omega) hst')
        · by_cases c2 : hi < x.toInt
          · exact lv_tableOut hx hb hd (Or.inr c2) (ka_up.at ho.1) (ka_J.sc (fun q h => k q (List.mem_append.mpr (Or.inr (List.mem_append.mpr (Or.inr h))))) hk hn hΓ hρ (by show ρ 0 + hi < ρ n + d; dsimp only at ex; omega) hst')
          · cases hq : os[(x.toInt - lo).toNat]? with
            | none =>
              have := Array.getElem?_eq_none_iff.mp hq
              omega
            | some o2 =>
              have hq2 : os.toList[(x.toInt - lo).toNat]? = some o2 := by rw [Array.getElem?_toList]; exact hq
              exact lv_tableIn hx hb hd c1 c2 hq (ka_up.at (List.all_eq_true.mp ho.2 o2 (List.mem_of_getElem? hq2))) (ka_J.tab (a := (1, n, d)) (x := x.toInt) ex hk hn hΓ hρ hst' os.toList lo kt _ _ hq2 (by omega))
      · cases h
    · cases h
  · rename_i o ps
    split at h
    · rename_i n d K2
      split at h
      · rename_i ho
        rw [Bool.and_eq_true, Bool.and_eq_true] at ho
        cases h
        obtain ⟨v, st', rfl, hlt, ⟨x, rfl, ex⟩, hst'⟩ := ka_stk.uncons hst
        by_cases c1 : ∃ q ∈ ps.toList, q.1 = x.toInt
        · exact lv_lookup hx hb hd ho.2 rfl (ka_up.at (ka_lk_some ps.toList ho.1.2 c1)) (ka_J.lks (a := (1, n, d)) (x := x.toInt) ex hk hn hΓ hρ hst' ps.toList (fun q h => k q (List.mem_append.mpr (Or.inl h))) c1)
        · have c2 : ∀ q ∈ ps.toList, q.1 ≠ x.toInt := fun q h e => c1 ⟨q, h, e⟩
          obtain ⟨g1, g2⟩ := ka_lkn.ok (a := (1, n, d)) ex h0.2 ps.toList hk.1 c2
          rw [ka_emp.no g1] at k
          exact lv_lookup hx hb hd ho.2 (ka_lk_none ps.toList c2) (ka_up.at ho.1.1) (ka_J.nar (k _ (List.mem_append.mpr (Or.inr List.mem_cons_self))) hk hn hΓ hρ g1 g2 hst')
      · cases h
    · cases h
  · cases h
end KF
