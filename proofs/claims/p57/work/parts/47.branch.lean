theorem kc_ref.len (E : kc_E) (a : kc_V) (lo hi : Int) : (kc_ref E a lo hi).length = E.length := by simp [kc_ref]
theorem kc_ref.ok {ρ : Nat → Int} {E : kc_E} {a : kc_V} {lo hi : Int} (h : kc_env ρ E) (h1 : lo ≤ ρ a.2.1 + a.2.2) (h2 : ρ a.2.1 + a.2.2 ≤ hi) : kc_env ρ (kc_ref E a lo hi) := by
  intro n
  have hn := h n
  unfold kc_ref
  by_cases e : n = a.2.1
  · subst e
    by_cases l : a.2.1 < E.length
    · rw [List.getD_eq_getElem?_getD, List.getElem?_set_self l]
      simp only [Option.getD_some]
      constructor
      · split <;> omega
      · split <;> omega
    · rw [List.set_eq_of_length_le (by omega)]
      exact hn
  · rw [List.getD_eq_getElem?_getD, List.getElem?_set_ne (Ne.symm e), ← List.getD_eq_getElem?_getD]
    exact hn
theorem kc_emp.no {ρ : Nat → Int} {E : kc_E} {a : kc_V} (h : kc_env ρ E) : kc_emp E a = false := by
  have := h a.2.1
  unfold kc_emp
  exact decide_eq_false (by omega)
def kc_rel (r : Nat) (u v : Int) : Prop := match r with
  | 0 => u = v | 1 => u ≠ v | 2 => u < v | 3 => v ≤ u | 4 => v < u | _ => u ≤ v
theorem kc_cn.len (r : Nat) (E : kc_E) (a b : kc_V) : (kc_cn r E a b).length = E.length := by
  unfold kc_cn
  split
  all_goals rw [kc_ref.len, kc_ref.len]
theorem kc_cn.ok {r : Nat} {ρ : Nat → Int} {E : kc_E} {a b : kc_V} (h : kc_env ρ E) (h1r : r ≠ 1) (hr : kc_rel r (ρ a.2.1 + a.2.2) (ρ b.2.1 + b.2.2)) : kc_env ρ (kc_cn r E a b) := by
  have h1 := h.at a
  have h2 := h.at b
  unfold kc_cn
  unfold kc_rel at hr
  split at hr
  · exact kc_ref.ok (kc_ref.ok h (by omega) (by omega)) (by omega) (by omega)
  · exact absurd rfl h1r
  · exact kc_ref.ok (kc_ref.ok h (by omega) (by omega)) (by omega) (by omega)
  · exact kc_ref.ok (kc_ref.ok h (by omega) (by omega)) (by omega) (by omega)
  · exact kc_ref.ok (kc_ref.ok h (by omega) (by omega)) (by omega) (by omega)
  · split
    · exact absurd rfl (by assumption)
    · exact absurd rfl (by assumption)
    · exact absurd rfl (by assumption)
    · exact absurd rfl (by assumption)
    · exact kc_ref.ok (kc_ref.ok h (by omega) (by omega)) (by omega) (by omega)
theorem kc_dead.no {r : Nat} {ρ : Nat → Int} {a b : kc_V} (h1r : r ≠ 1) (hr : kc_rel r (ρ a.2.1 + a.2.2) (ρ b.2.1 + b.2.2)) : kc_dead r a b = false := by
  unfold kc_dead
  by_cases e : a.2.1 = b.2.1
  · rw [e] at hr
    unfold kc_rel at hr
    simp only [e, decide_true, Bool.true_and]
    split at hr
    · exact decide_eq_false (by omega)
    · exact absurd rfl h1r
    · exact decide_eq_false (by omega)
    · exact decide_eq_false (by omega)
    · exact decide_eq_false (by omega)
    · split
      · exact absurd rfl (by assumption)
      · exact absurd rfl (by assumption)
      · exact absurd rfl (by assumption)
      · exact absurd rfl (by assumption)
      · exact decide_eq_false (by omega)
  · simp [e]
section KF
variable {p : Program} {l : Launch} {e : Env} {R : Room} {s : State} {m : MethodId} {args : Array Value} {below : List Frame} {meth : Method} {c : Code} {Q : State → Prop}
variable {cc : ByteArray} {nL : Nat} {D : va_G} {cl : List vw_C} {A : Nat → Prop} {H0 : Heap}
variable {nA : Nat} {ρ0 : Nat → Int} {nB : Nat} {β0 : Nat → Nat}
variable {E : kc_E} {L K K' : List kc_V} {Hs : List kc_G} {cs ss pc : Nat} {ρ : Nat → Int} {β : Nat → Nat} {ws : va_W} {tys : List (ClassId × FieldType)} {H : Heap} {locs : List Loc} {ls : Array Slot} {lv : List (Nat × Value)} {st st' : List Value}
/-- bounds narrowed, all else as it is -/
theorem kc_J.nar {E' : kc_E} (k : kc_J p l e R s m args below meth c Q D cl A H0 nL nA ρ0 nB β0 pc (E', L, K', Hs, cs, ss)) (hk : kc_ok D cl A s H0 nL E L K Hs ρ β ws tys H locs ls lv st) (hg : kc_ag nA ρ0 nB β0 E.length Hs.length ρ β)
    (hE' : kc_env ρ E') (hl : E'.length = E.length) (hK : kc_stk ρ β Hs.length E.length K' st') : W p l e R s m args below meth c H locs cs ss Q (F0 m pc ls st') := by
  refine kc_J.mv k hk hg (fun _ _ => rfl) hE' (by omega) ?_ hk.2.2.2.1 ?_
  · rw [hl]; exact hk.2.2.1
  · rw [hl]; exact hK
theorem kc_ok.nar {E' : kc_E} (hk : kc_ok D cl A s H0 nL E L K Hs ρ β ws tys H locs ls lv st) (hE' : kc_env ρ E') (hl : E'.length = E.length) : kc_ok D cl A s H0 nL E' L K Hs ρ β ws tys H locs ls lv st := by
  unfold kc_ok
  rw [hl]
  exact ⟨hE', hk.2⟩
theorem kc_J.s1 {r tgt : Nat} {a b : kc_V} (k : ∀ q ∈ kc_s1 r tgt E a b K', kc_J p l e R s m args below meth c Q D cl A H0 nL nA ρ0 nB β0 q.1 (q.2.1, L, q.2.2, Hs, cs, ss)) (hk : kc_ok D cl A s H0 nL E L K Hs ρ β ws tys H locs ls lv st) (hg : kc_ag nA ρ0 nB β0 E.length Hs.length ρ β)
    (h1r : r ≠ 1) (hr : kc_rel r (ρ a.2.1 + a.2.2) (ρ b.2.1 + b.2.2)) (hK : kc_stk ρ β Hs.length E.length K' st') : W p l e R s m args below meth c H locs cs ss Q (F0 m tgt ls st') := by
  have hE' := kc_cn.ok hk.1 h1r hr
  have h1 : kc_s1 r tgt E a b K' = [(tgt, kc_cn r E a b, K')] := by
    unfold kc_s1
    rw [kc_emp.no hE', kc_emp.no hE', kc_dead.no h1r hr]
    rfl
  rw [h1] at k
  exact kc_J.nar (k _ List.mem_cons_self) hk hg hE' (kc_cn.len _ _ _ _) hK
theorem kc_J.sc {r tgt : Nat} {a b : kc_V} (k : ∀ q ∈ kc_sc r tgt E a b K', kc_J p l e R s m args below meth c Q D cl A H0 nL nA ρ0 nB β0 q.1 (q.2.1, L, q.2.2, Hs, cs, ss)) (hk : kc_ok D cl A s H0 nL E L K Hs ρ β ws tys H locs ls lv st) (hg : kc_ag nA ρ0 nB β0 E.length Hs.length ρ β)
    (hr : kc_rel r (ρ a.2.1 + a.2.2) (ρ b.2.1 + b.2.2)) (hK : kc_stk ρ β Hs.length E.length K' st') : W p l e R s m args below meth c H locs cs ss Q (F0 m tgt ls st') := by
  unfold kc_sc at k
  by_cases h1 : r = 1
  · subst h1
    rw [if_pos rfl] at k
    have hr2 : ρ a.2.1 + a.2.2 ≠ ρ b.2.1 + b.2.2 := hr
    rcases Int.lt_or_gt_of_ne hr2 with h2 | h2
    · exact kc_J.s1 (fun q h => k q (List.mem_append.mpr (Or.inl h))) hk hg (by decide) h2 hK
    · exact kc_J.s1 (fun q h => k q (List.mem_append.mpr (Or.inr h))) hk hg (by decide) h2 hK
  · rw [if_neg h1] at k
    exact kc_J.s1 k hk hg h1 hr hK
theorem kc_up.at {o : Int} (h : kc_up pc o = true) : (pc : Int) + o = (((pc : Int) + o).toNat : Int) := (Int.toNat_of_nonneg (of_decide_eq_true h)).symm
theorem kc_J.tab {a : kc_V} {x : Int} (hx0 : x = ρ a.2.1 + a.2.2) (hk : kc_ok D cl A s H0 nL E L K Hs ρ β ws tys H locs ls lv st) (hg : kc_ag nA ρ0 nB β0 E.length Hs.length ρ β) (hK : kc_stk ρ β Hs.length E.length K' st') : ∀ (os : List Int) (k : Int), (∀ q ∈ kc_tab pc E a K' k os, kc_J p l e R s m args below meth c Q D cl A H0 nL nA ρ0 nB β0 q.1 (q.2.1, L, q.2.2, Hs, cs, ss)) → ∀ (j : Nat) (o : Int), os[j]? = some o → x = k + j → W p l e R s m args below meth c H locs cs ss Q (F0 m ((pc : Int) + o).toNat ls st')
  | [], _, _, j, o, ho, _ => by simp at ho
  | o1 :: os, k, hq, 0, o, ho, hj => by
    cases ho
    refine kc_J.s1 (fun q h => hq q (List.mem_append.mpr (Or.inl h))) hk hg (by decide) ?_ hK
    have := hk.2.1.2
    show ρ a.2.1 + a.2.2 = ρ 0 + k
    omega
  | o1 :: os, k, hq, j + 1, o, ho, hj => kc_J.tab hx0 hk hg hK os (k + 1) (fun q h => hq q (List.mem_append.mpr (Or.inr h))) j o (by simpa using ho) (by omega)
theorem kc_J.lkn {a : kc_V} {x : Int} {tgt : Nat} (hx0 : x = ρ a.2.1 + a.2.2) (hK : kc_stk ρ β Hs.length E.length K' st') : ∀ (os : List (Int × Int)) (E1 : kc_E), E1.length = E.length → kc_ok D cl A s H0 nL E1 L K Hs ρ β ws tys H locs ls lv st → kc_ag nA ρ0 nB β0 E.length Hs.length ρ β → (∀ q ∈ kc_lkn tgt E1 a K' os, kc_J p l e R s m args below meth c Q D cl A H0 nL nA ρ0 nB β0 q.1 (q.2.1, L, q.2.2, Hs, cs, ss)) → (∀ q ∈ os, q.1 ≠ x) → W p l e R s m args below meth c H locs cs ss Q (F0 m tgt ls st')
  | [], E1, h1, hk, hg, k, _ => kc_J.go (k _ List.mem_cons_self) hk (by rw [h1]; exact hg) (by rw [h1]; exact hK)
  | o :: os, E1, h1, hk, hg, k, hq => by
    have h2 := hq o List.mem_cons_self
    have h0 := hk.2.1.2
    have go : ∀ r : Nat, r ≠ 1 → kc_rel r (ρ a.2.1 + a.2.2) (ρ 0 + o.1) → (∀ q ∈ kc_s1 r tgt E1 a (1, 0, o.1) K', q ∈ kc_sc 1 tgt E1 a (1, 0, o.1) K') → W p l e R s m args below meth c H locs cs ss Q (F0 m tgt ls st') := fun r h1r hr hin => by
      have hE' := kc_cn.ok (b := (1, 0, o.1)) hk.1 h1r hr
      have h3 : kc_s1 r tgt E1 a (1, 0, o.1) K' = [(tgt, kc_cn r E1 a (1, 0, o.1), K')] := by
        unfold kc_s1
        rw [kc_emp.no hE', kc_emp.no hE', kc_dead.no (b := (1, 0, o.1)) h1r hr]
        rfl
      rw [h3] at hin
      exact kc_J.lkn hx0 hK os (kc_cn r E1 a (1, 0, o.1)) ((kc_cn.len _ _ _ _).trans h1) (hk.nar hE' (kc_cn.len _ _ _ _)) hg (fun q hq2 => k q (List.mem_flatMap.mpr ⟨_, hin _ List.mem_cons_self, hq2⟩)) (fun q h => hq q (List.mem_cons_of_mem _ h))
    rcases Int.lt_or_gt_of_ne (show ρ a.2.1 + a.2.2 ≠ ρ 0 + o.1 by omega) with h4 | h4
    · exact go 2 (by decide) h4 (fun q h => by unfold kc_sc; rw [if_pos rfl]; exact List.mem_append.mpr (Or.inl h))
    · exact go 4 (by decide) h4 (fun q h => by unfold kc_sc; rw [if_pos rfl]; exact List.mem_append.mpr (Or.inr h))
theorem kc_J.lks {a : kc_V} {x : Int} {dflt : Int} (hx0 : x = ρ a.2.1 + a.2.2) (hk : kc_ok D cl A s H0 nL E L K Hs ρ β ws tys H locs ls lv st) (hg : kc_ag nA ρ0 nB β0 E.length Hs.length ρ β) (hK : kc_stk ρ β Hs.length E.length K' st') : ∀ (os : List (Int × Int)), (∀ q ∈ kc_lks pc E a K' os, kc_J p l e R s m args below meth c Q D cl A H0 nL nA ρ0 nB β0 q.1 (q.2.1, L, q.2.2, Hs, cs, ss)) → (∃ q ∈ os, q.1 = x) → W p l e R s m args below meth c H locs cs ss Q (F0 m ((pc : Int) + Op.lookupswitch.offset os dflt x).toNat ls st')
  | [], _, h => by obtain ⟨q, h, -⟩ := h; cases h
  | o1 :: os, hq, h => by
    by_cases e1 : o1.1 = x
    · rw [show o1 = (o1.1, o1.2) from rfl, Op.lookupswitch.offset_cons, if_pos e1]
      refine kc_J.s1 (fun q h => hq q (List.mem_append.mpr (Or.inl h))) hk hg (by decide) ?_ hK
      have := hk.2.1.2
      show ρ a.2.1 + a.2.2 = ρ 0 + o1.1
      omega
    · rw [show o1 = (o1.1, o1.2) from rfl, Op.lookupswitch.offset_cons, if_neg e1]
      refine kc_J.lks hx0 hk hg hK os (fun q h => hq q (List.mem_append.mpr (Or.inr h))) ?_
      obtain ⟨q, h1, h2⟩ := h
      rcases List.mem_cons.mp h1 with h3 | h3
      · subst h3; exact absurd h2 e1
      · exact ⟨q, h3, h2⟩
theorem kc_lk_none {dflt x : Int} : ∀ (os : List (Int × Int)), (∀ q ∈ os, q.1 ≠ x) → Op.lookupswitch.offset os dflt x = dflt
  | [], _ => rfl
  | o1 :: os, h => by
    rw [show o1 = (o1.1, o1.2) from rfl, Op.lookupswitch.offset_cons, if_neg (h o1 List.mem_cons_self)]
    exact kc_lk_none os (fun q h1 => h q (List.mem_cons_of_mem _ h1))
theorem kc_lk_some {dflt x : Int} {pc : Nat} : ∀ (os : List (Int × Int)), os.all (fun q => kc_up pc q.2) = true → (∃ q ∈ os, q.1 = x) → kc_up pc (Op.lookupswitch.offset os dflt x) = true
  | [], _, h => by obtain ⟨q, h, -⟩ := h; cases h
  | o1 :: os, ha, h => by
    rw [List.all_cons, Bool.and_eq_true] at ha
    by_cases e1 : o1.1 = x
    · rw [show o1 = (o1.1, o1.2) from rfl, Op.lookupswitch.offset_cons, if_pos e1]
      exact ha.1
    · rw [show o1 = (o1.1, o1.2) from rfl, Op.lookupswitch.offset_cons, if_neg e1]
      refine kc_lk_some os ha.2 ?_
      obtain ⟨q, h1, h2⟩ := h
      rcases List.mem_cons.mp h1 with h3 | h3
      · subst h3; exact absurd h2 e1
      · exact ⟨q, h3, h2⟩
theorem kc_i0 : (0 : Int32).toInt = 0 := rfl
def kc_l2 (i : Instr) (len : Nat) : Bool := match i with
  | .tableswitch _ _ _ _ => true
  | .lookupswitch _ _ => true
  | _ => decide (len = 3)
theorem kc_relI {x y : Int32} {u v : Int} (ex : x.toInt = u) (ey : y.toInt = v) : (x = y ↔ u = v) ∧ (x < y ↔ u < v) ∧ (y ≤ x ↔ v ≤ u) ∧ (y < x ↔ v < u) ∧ (x ≤ y ↔ u ≤ v) := by
  subst ex; subst ey
  exact ⟨Int32.toInt_inj.symm, Int32.lt_iff_toInt_lt, Int32.le_iff_toInt_le, Int32.lt_iff_toInt_lt, Int32.le_iff_toInt_le⟩
/-- an int compared with another: two roads -/
theorem kc_icmp {q : Jvm.ClassFile.Cond} {o : Int} {tgt : Nat} {x y : Int32} {u v : Int} {rest : List Value} (ex : x.toInt = u) (ey : y.toInt = v) (hx : p.tables.exec = Jvm.exec) (hb : c.code = cc) (hd : decode cc pc = .ok (.if_icmp q o, 3)) (ht : (pc : Int) + o = (tgt : Int))
    (kt : kc_rel (kc_code q) u v → W p l e R s m args below meth c H locs cs ss Q (F0 m tgt ls rest)) (kf : kc_rel (kc_neg (kc_code q)) u v → W p l e R s m args below meth c H locs cs ss Q (F0 m (pc + 3) ls rest)) : W p l e R s m args below meth c H locs cs ss Q (F0 m pc ls (.int y :: .int x :: rest)) := by
  obtain ⟨g1, g2, g3, g4, g5⟩ := kc_relI ex ey
  cases q with
  | eq => exact lv_icmp_eq hx hb hd ht (fun h => kt (g1.mp h)) (fun h => kf (fun q => h (g1.mpr q)))
  | ne => exact lv_icmp_ne hx hb hd ht (fun h => kt (fun q => h (g1.mpr q))) (fun h => kf (g1.mp h))
  | lt => exact lv_icmp_lt hx hb hd ht (fun h => kt (g2.mp h)) (fun h => kf (by have : ¬ u < v := fun q => h (g2.mpr q); show v ≤ u; omega))
  | ge => exact lv_icmp_ge hx hb hd ht (fun h => kt (g3.mp h)) (fun h => kf (by have : ¬ v ≤ u := fun q => h (g3.mpr q); show u < v; omega))
  | gt => exact lv_icmp_gt hx hb hd ht (fun h => kt (g4.mp h)) (fun h => kf (by have : ¬ v < u := fun q => h (g4.mpr q); show u ≤ v; omega))
  | le => exact lv_icmp_le hx hb hd ht (fun h => kt (g5.mp h)) (fun h => kf (by have : ¬ u ≤ v := fun q => h (g5.mpr q); show v < u; omega))
theorem kc_if0 {q : Jvm.ClassFile.Cond} {o : Int} {tgt : Nat} {x : Int32} {u v : Int} {rest : List Value} (ex : x.toInt = u) (ey : v = 0) (hx : p.tables.exec = Jvm.exec) (hb : c.code = cc) (hd : decode cc pc = .ok (.ifCond q o, 3)) (ht : (pc : Int) + o = (tgt : Int))
    (kt : kc_rel (kc_code q) u v → W p l e R s m args below meth c H locs cs ss Q (F0 m tgt ls rest)) (kf : kc_rel (kc_neg (kc_code q)) u v → W p l e R s m args below meth c H locs cs ss Q (F0 m (pc + 3) ls rest)) : W p l e R s m args below meth c H locs cs ss Q (F0 m pc ls (.int x :: rest)) := by
  obtain ⟨g1, g2, g3, g4, g5⟩ := kc_relI (y := 0) ex (kc_i0.trans ey.symm)
  cases q with
  | eq => exact lv_if_eq hx hb hd ht (fun h => kt (g1.mp h)) (fun h => kf (fun q => h (g1.mpr q)))
  | ne => exact lv_if_ne hx hb hd ht (fun h => kt (fun q => h (g1.mpr q))) (fun h => kf (g1.mp h))
  | lt => exact lv_if_lt hx hb hd ht (fun h => kt (g2.mp h)) (fun h => kf (by have : ¬ u < v := fun q => h (g2.mpr q); show v ≤ u; omega))
  | ge => exact lv_if_ge hx hb hd ht (fun h => kt (g3.mp h)) (fun h => kf (by have : ¬ v ≤ u := fun q => h (g3.mpr q); show u < v; omega))
  | gt => exact lv_if_gt hx hb hd ht (fun h => kt (g4.mp h)) (fun h => kf (by have : ¬ v < u := fun q => h (g4.mpr q); show u ≤ v; omega))
  | le => exact lv_if_le hx hb hd ht (fun h => kt (g5.mp h)) (fun h => kf (by have : ¬ u ≤ v := fun q => h (g5.mpr q); show v < u; omega))
set_option maxHeartbeats 4000000 in
theorem kc_x2.ok {i : Instr} {len : Nat} {succ : List kc_N} (h : kc_x2 i pc E K = some succ) (hx : p.tables.exec = Jvm.exec) (hb : c.code = cc) (hd : decode cc pc = .ok (i, len)) (hlen : kc_l2 i len = true)
    (k : ∀ q ∈ succ, kc_J p l e R s m args below meth c Q D cl A H0 nL nA ρ0 nB β0 q.1 (q.2.1, L, q.2.2, Hs, cs, ss)) : kc_J p l e R s m args below meth c Q D cl A H0 nL nA ρ0 nB β0 pc (E, L, K, Hs, cs, ss) := by
  intro ρ β ws tys H locs ls lv st hk hg
  have h0 : 0 < E.length ∧ ρ 0 = 0 := hk.2.1
  have hst : kc_stk ρ β Hs.length E.length K st := hk.2.2.2.2.1
  unfold kc_x2 at h
  split at h
  · cases of_decide_eq_true hlen
    split at h
    · rename_i ho
      cases h
      exact lv_goto hx hb hd (kc_up.at ho) (kc_J.go (k _ List.mem_cons_self) hk hg hst)
    · cases h
  · cases of_decide_eq_true hlen
    split at h
    · rename_i n d K2
      split at h
      · rename_i ho
        cases h
        obtain ⟨v, st', rfl, hlt, ⟨x, rfl, ex⟩, hst'⟩ := kc_stk.uncons hst
        exact kc_if0 ex (show ρ 0 + 0 = 0 by omega) hx hb hd (kc_up.at ho) (fun hr => kc_J.sc (fun q h => k q (List.mem_append.mpr (Or.inl h))) hk hg hr hst') (fun hr => kc_J.sc (fun q h => k q (List.mem_append.mpr (Or.inr h))) hk hg hr hst')
      · cases h
    · cases h
  · cases of_decide_eq_true hlen
    split at h
    · rename_i n2 d2 n1 d1 K2
      split at h
      · rename_i ho
        cases h
        obtain ⟨v, st', rfl, hlt, ⟨x, rfl, ex⟩, hst'⟩ := kc_stk.uncons hst
        obtain ⟨v2, st2, rfl, hlt2, ⟨x2, rfl, ex2⟩, hst2⟩ := kc_stk.uncons hst'
        exact kc_icmp ex2 ex hx hb hd (kc_up.at ho) (fun hr => kc_J.sc (fun q h => k q (List.mem_append.mpr (Or.inl h))) hk hg hr hst2) (fun hr => kc_J.sc (fun q h => k q (List.mem_append.mpr (Or.inr h))) hk hg hr hst2)
      · cases h
    · cases h
  · cases of_decide_eq_true hlen
    split at h
    · rename_i n d K2
      split at h
      · rename_i ho
        cases h
        obtain ⟨v, st', rfl, hlt, hv, hst'⟩ := kc_stk.uncons hst
        rcases hv with ⟨rfl, ex⟩ | ⟨r, rfl, hr1, -, ex⟩
        · exact lv_ifnullN hx hb hd (kc_up.at ho) (kc_J.s1 (fun q h => k q (List.mem_append.mpr (Or.inl h))) hk hg (by decide) (by show ρ n + d = ρ 0 + 0; dsimp only at ex; omega) hst')
        · exact lv_ifnull hx hb hd (kc_J.s1 (fun q h => k q (List.mem_append.mpr (Or.inr h))) hk hg (by decide) (by show ρ 0 + 0 < ρ n + d; dsimp only at ex; omega) hst')
      · cases h
    · cases h
  · cases of_decide_eq_true hlen
    split at h
    · rename_i n d K2
      split at h
      · rename_i ho
        cases h
        obtain ⟨v, st', rfl, hlt, hv, hst'⟩ := kc_stk.uncons hst
        rcases hv with ⟨rfl, ex⟩ | ⟨r, rfl, hr1, -, ex⟩
        · exact lv_ifnonnullN hx hb hd (kc_J.s1 (fun q h => k q (List.mem_append.mpr (Or.inr h))) hk hg (by decide) (by show ρ n + d = ρ 0 + 0; dsimp only at ex; omega) hst')
        · exact lv_ifnonnull hx hb hd (kc_up.at ho) (kc_J.s1 (fun q h => k q (List.mem_append.mpr (Or.inl h))) hk hg (by decide) (by show ρ 0 + 0 < ρ n + d; dsimp only at ex; omega) hst')
      · cases h
    · cases h
  · rename_i o lo hi os
    split at h
    · rename_i n d K2
      split at h
      · rename_i ho
        rw [Bool.and_eq_true, Bool.and_eq_true] at ho
        have hsz := of_decide_eq_true ho.2
        have ho := ho.1
        cases h
        obtain ⟨v, st', rfl, hlt, ⟨x, rfl, ex⟩, hst'⟩ := kc_stk.uncons hst
        have kt : ∀ q ∈ kc_tab pc E (1, n, d) K2 lo os.toList, kc_J p l e R s m args below meth c Q D cl A H0 nL nA ρ0 nB β0 q.1 (q.2.1, L, q.2.2, Hs, cs, ss) := fun q h => k q (List.mem_append.mpr (Or.inl h))
        by_cases c1 : x.toInt < lo
        · exact lv_tableOut hx hb hd (Or.inl c1) (kc_up.at ho.1) (kc_J.s1 (fun q h => k q (List.mem_append.mpr (Or.inr (List.mem_append.mpr (Or.inl h))))) hk hg (by decide) (by show ρ n + d < ρ 0 + lo; dsimp only at ex; omega) hst')
        · by_cases c2 : hi < x.toInt
          · exact lv_tableOut hx hb hd (Or.inr c2) (kc_up.at ho.1) (kc_J.s1 (fun q h => k q (List.mem_append.mpr (Or.inr (List.mem_append.mpr (Or.inr h))))) hk hg (by decide) (by show ρ 0 + hi < ρ n + d; dsimp only at ex; omega) hst')
          · cases hq : os[(x.toInt - lo).toNat]? with
            | none =>
              have := Array.getElem?_eq_none_iff.mp hq
              omega
            | some o2 =>
              have hq2 : os.toList[(x.toInt - lo).toNat]? = some o2 := by rw [Array.getElem?_toList]; exact hq
              exact lv_tableIn hx hb hd c1 c2 hq (kc_up.at (List.all_eq_true.mp ho.2 o2 (List.mem_of_getElem? hq2))) (kc_J.tab (a := (1, n, d)) (x := x.toInt) ex hk hg hst' os.toList lo kt _ _ hq2 (by omega))
      · cases h
    · cases h
  · rename_i o ps
    split at h
    · rename_i n d K2
      split at h
      · rename_i ho
        rw [Bool.and_eq_true, Bool.and_eq_true] at ho
        cases h
        obtain ⟨v, st', rfl, hlt, ⟨x, rfl, ex⟩, hst'⟩ := kc_stk.uncons hst
        by_cases c1 : ∃ q ∈ ps.toList, q.1 = x.toInt
        · exact lv_lookup hx hb hd ho.2 rfl (kc_up.at (kc_lk_some ps.toList ho.1.2 c1)) (kc_J.lks (a := (1, n, d)) (x := x.toInt) ex hk hg hst' ps.toList (fun q h => k q (List.mem_append.mpr (Or.inl h))) c1)
        · have c2 : ∀ q ∈ ps.toList, q.1 ≠ x.toInt := fun q h e => c1 ⟨q, h, e⟩
          exact lv_lookup hx hb hd ho.2 (kc_lk_none ps.toList c2) (kc_up.at ho.1.1) (kc_J.lkn (a := (1, n, d)) (x := x.toInt) ex hst' ps.toList E rfl hk hg (fun q h => k q (List.mem_append.mpr (Or.inr h))) c2)
      · cases h
    · cases h
  · cases h
end KF
