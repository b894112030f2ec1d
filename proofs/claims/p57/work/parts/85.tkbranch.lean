/-- a switch's cases from k on -/
def tk_tab (pc : Nat) (E : tk_E) (a : tk_P) (K : List tk_V) : Int → List Int → List tk_O
  | _, [] => []
  | k, o :: os => tk_s1 0 ((pc : Int) + o).toNat E a (0, k) K ++ tk_tab pc E a K (k + 1) os
def tk_lks (pc : Nat) (E : tk_E) (a : tk_P) (K : List tk_V) : List (Int × Int) → List tk_O
  | [] => []
  | o :: os => tk_s1 0 ((pc : Int) + o.2).toNat E a (0, o.1) K ++ tk_lks pc E a K os
/-- .. and none of them -/
def tk_lkn (tgt : Nat) (E : tk_E) (a : tk_P) (K : List tk_V) : List (Int × Int) → List tk_O
  | [] => [(tgt, E, K)]
  | o :: os => (tk_ne tgt E a (0, o.1) K).flatMap (fun q => tk_lkn tgt q.2.1 a K os)
/-- null, and not null -/
def tk_nul (tgt : Nat) (E : tk_E) (a : tk_P) (K : List tk_V) : List tk_O := if tk_lo E a ≤ 0 then [(tgt, E, K)] else []
def tk_non (tgt : Nat) (E : tk_E) (a : tk_P) (K : List tk_V) : List tk_O := if (tk_at (tk_rl E a.1 (1 - a.2)) a.1).2.1 < (tk_at (tk_rl E a.1 (1 - a.2)) a.1).1 then [] else [(tgt, tk_rl E a.1 (1 - a.2), K)]
/-- an instruction that goes elsewhere -/
def tk_x2 (i : Instr) (pc : Nat) (E : tk_E) (K : List tk_V) : Option (List tk_O) := match i with
  | .goto o => if kc_up pc o = true then some [(((pc : Int) + o).toNat, E, K)] else none
  | .ifCond q o => match K with
    | (1, a) :: K' => if kc_up pc o = true then some (tk_sc (kc_code q) ((pc : Int) + o).toNat E a (0, 0) K' ++ tk_sc (kc_neg (kc_code q)) (pc + 3) E a (0, 0) K') else none
    | _ => none
  | .if_icmp q o => match K with
    | (1, b) :: (1, a) :: K' => if kc_up pc o = true then some (tk_sc (kc_code q) ((pc : Int) + o).toNat E a b K' ++ tk_sc (kc_neg (kc_code q)) (pc + 3) E a b K') else none
    | _ => none
  | .ifnull o => match K with
    | (t, a) :: K' => if kc_up pc o = true ∧ 10 ≤ t then some (tk_nul ((pc : Int) + o).toNat E a K' ++ tk_non (pc + 3) E a K') else none
    | _ => none
  | .ifnonnull o => match K with
    | (t, a) :: K' => if kc_up pc o = true ∧ 10 ≤ t then some (tk_non ((pc : Int) + o).toNat E a K' ++ tk_nul (pc + 3) E a K') else none
    | _ => none
  | .tableswitch o lo hi os => match K with
    | (1, a) :: K' => if (kc_up pc o && os.toList.all (kc_up pc) && decide ((os.size : Int) = hi - lo + 1)) = true then some (tk_tab pc E a K' lo os.toList ++ (tk_s1 2 ((pc : Int) + o).toNat E a (0, lo) K' ++ tk_s1 4 ((pc : Int) + o).toNat E a (0, hi) K')) else none
    | _ => none
  | .lookupswitch o ps => match K with
    | (1, a) :: K' => if (kc_up pc o && ps.toList.all (fun q => kc_up pc q.2) && (ps.toList.zip (ps.toList.drop 1)).all (fun (a, next) => a.1 < next.1)) = true then some (tk_lks pc E a K' ps.toList ++ tk_lkn ((pc : Int) + o).toNat E a K' ps.toList) else none
    | _ => none
  | _ => none
/-- two longs compared, and a jump by it -/
def tk_x3 (j : Instr) (pc : Nat) (E : tk_E) (K : List tk_V) : Option (List tk_O) := match j with
  | .ifCond q o => match K with
    | (2, b) :: (2, a) :: K' => if kc_up (pc + 1) o = true then some (tk_sc (kc_code q) (((pc + 1 : Nat) : Int) + o).toNat E a b K' ++ tk_sc (kc_neg (kc_code q)) (pc + 4) E a b K') else none
    | _ => none
  | _ => none
section TG
variable {p : Program} {l : Launch} {e : Env} {R : Room} {s : State} {m : MethodId} {args : Array Value} {below : List Frame} {meth : Method} {c : Code} {Q : State → Prop}
variable {cc : ByteArray} {nL : Nat} {D : va_G} {cl : List vw_C} {A : Nat → Prop} {H0 : Heap} {KT : Nat → tk_G} {F : List (Nat × Nat × Nat)} {B0 : tk_B} {ws0 : va_W}
variable {nA : Nat} {ρ0 : Nat → Int}
variable {E : tk_E} {L K K' : List tk_V} {M : tk_M} {cs ss pc : Nat} {ρ : Nat → Int} {B : tk_B} {ws : va_W} {tys : List (ClassId × FieldType)} {H : Heap} {locs : List Loc} {ls : Array Slot} {lv : List (Nat × Value)} {st st' : List Value}
theorem tk_J.s1 {r tgt : Nat} {a b : tk_P} (k : ∀ q ∈ tk_s1 r tgt E a b K', tk_J p l e R s m args below meth c Q D cl A H0 KT F B0 ws0 nL nA ρ0 q.1 (q.2.1, L, q.2.2, M, cs, ss)) (hk : tk_ok D cl A s H0 KT F B0 ws0 nL (E, L, K, M, cs, ss) ρ B ws tys H locs ls lv st) (hg : tk_ag nA ρ0 E.length ρ)
    (ha : a.1 < E.length) (hb : b.1 < E.length) (h1r : r ≠ 1) (hr : kc_rel r (ρ a.1 + a.2) (ρ b.1 + b.2)) (hK : tk_stk ρ B E.length K' st') : W p l e R s m args below meth c H locs cs ss Q (F0 m tgt ls st') := by
  obtain ⟨E', ρ', g1, g2, g3, g4⟩ := tk_c1.ok hk.1 ha hb h1r hr
  have h1 : tk_s1 r tgt E a b K' = [(tgt, E', K')] := by
    unfold tk_s1
    have g1 : tk_c1 r E a b = some E' := g1
    rw [g1]
  rw [h1] at k
  exact tk_J.mv (k _ List.mem_cons_self) hk hg g3 g2 g4 (hk.2.2.1.ext g3 (tk_le.rf B) g4) hk.2.2.2.1 (tk_stk.ext g3 (tk_le.rf B) g4 hK) (hk.2.2.2.2.2.1.ext g3 g4)
theorem tk_J.ne {tgt : Nat} {a b : tk_P} (k : ∀ q ∈ tk_ne tgt E a b K', tk_J p l e R s m args below meth c Q D cl A H0 KT F B0 ws0 nL nA ρ0 q.1 (q.2.1, L, q.2.2, M, cs, ss)) (hk : tk_ok D cl A s H0 KT F B0 ws0 nL (E, L, K, M, cs, ss) ρ B ws tys H locs ls lv st) (hg : tk_ag nA ρ0 E.length ρ)
    (ha : a.1 < E.length) (hb : b.1 < E.length) (hr : ρ a.1 + a.2 ≠ ρ b.1 + b.2) (hK : tk_stk ρ B E.length K' st') : W p l e R s m args below meth c H locs cs ss Q (F0 m tgt ls st') := by
  have hE : tk_env ρ E := hk.1
  unfold tk_ne at k
  split at k
  · rename_i hc
    have hc := tk_bq hc
    split at k
    · rename_i h2
      rw [hc, h2] at hr
      exact absurd rfl hr
    · exact tk_J.go (k _ List.mem_cons_self) hk hg hK
  · split at k
    · rcases Int.lt_or_gt_of_ne hr with h2 | h2
      · exact tk_J.s1 (fun q h => k q (List.mem_append.mpr (Or.inl h))) hk hg ha hb (by decide) h2 hK
      · exact tk_J.s1 (fun q h => k q (List.mem_append.mpr (Or.inr h))) hk hg ha hb (by decide) h2 hK
    · obtain ⟨b1, b2⟩ := tk_B2.ok hE a.1 b.1
      split at k
      · rename_i h2
        exact tk_J.s1 k hk hg ha hb (by decide) (show ρ b.1 + b.2 < ρ a.1 + a.2 by omega) hK
      · split at k
        · rename_i h2
          exact tk_J.s1 k hk hg ha hb (by decide) (show ρ a.1 + a.2 < ρ b.1 + b.2 by omega) hK
        · exact tk_J.go (k _ List.mem_cons_self) hk hg hK
theorem tk_J.sc {r tgt : Nat} {a b : tk_P} (k : ∀ q ∈ tk_sc r tgt E a b K', tk_J p l e R s m args below meth c Q D cl A H0 KT F B0 ws0 nL nA ρ0 q.1 (q.2.1, L, q.2.2, M, cs, ss)) (hk : tk_ok D cl A s H0 KT F B0 ws0 nL (E, L, K, M, cs, ss) ρ B ws tys H locs ls lv st) (hg : tk_ag nA ρ0 E.length ρ)
    (ha : a.1 < E.length) (hb : b.1 < E.length) (hr : kc_rel r (ρ a.1 + a.2) (ρ b.1 + b.2)) (hK : tk_stk ρ B E.length K' st') : W p l e R s m args below meth c H locs cs ss Q (F0 m tgt ls st') := by
  unfold tk_sc at k
  by_cases h1 : r = 1
  · subst h1
    rw [if_pos (show Nat.beq 1 1 = true from rfl)] at k
    exact tk_J.ne k hk hg ha hb hr hK
  · rw [if_neg (fun q => h1 (tk_bq q))] at k
    exact tk_J.s1 k hk hg ha hb h1 hr hK
theorem tk_J.nul {tgt : Nat} {a : tk_P} (k : ∀ q ∈ tk_nul tgt E a K', tk_J p l e R s m args below meth c Q D cl A H0 KT F B0 ws0 nL nA ρ0 q.1 (q.2.1, L, q.2.2, M, cs, ss)) (hk : tk_ok D cl A s H0 KT F B0 ws0 nL (E, L, K, M, cs, ss) ρ B ws tys H locs ls lv st) (hg : tk_ag nA ρ0 E.length ρ)
    (hr : ρ a.1 + a.2 = 0) (hK : tk_stk ρ B E.length K' st') : W p l e R s m args below meth c H locs cs ss Q (F0 m tgt ls st') := by
  have hE : tk_env ρ E := hk.1
  have h1 := hE.at a
  unfold tk_nul at k
  rw [if_pos (by omega)] at k
  exact tk_J.go (k _ List.mem_cons_self) hk hg hK
theorem tk_J.non {tgt : Nat} {a : tk_P} (k : ∀ q ∈ tk_non tgt E a K', tk_J p l e R s m args below meth c Q D cl A H0 KT F B0 ws0 nL nA ρ0 q.1 (q.2.1, L, q.2.2, M, cs, ss)) (hk : tk_ok D cl A s H0 KT F B0 ws0 nL (E, L, K, M, cs, ss) ρ B ws tys H locs ls lv st) (hg : tk_ag nA ρ0 E.length ρ)
    (hr : 1 ≤ ρ a.1 + a.2) (hK : tk_stk ρ B E.length K' st') : W p l e R s m args below meth c H locs cs ss Q (F0 m tgt ls st') := by
  have hE' : tk_env ρ (tk_rl E a.1 (1 - a.2)) := tk_rl.ok hk.1 (by omega)
  have h1 := (hE' a.1).1
  have h2 := (hE' a.1).2.1
  unfold tk_non at k
  rw [if_neg (by omega)] at k
  have hl := tk_rl.len E a.1 (1 - a.2)
  exact tk_J.mv (k _ List.mem_cons_self) hk hg (fun _ _ => rfl) hE' (by dsimp only; omega) (by dsimp only; rw [hl]; exact hk.2.2.1) hk.2.2.2.1 (by dsimp only; rw [hl]; exact hK) (by dsimp only; rw [hl]; exact hk.2.2.2.2.2.1)
theorem tk_J.tab {a : tk_P} {x : Int} (ha : a.1 < E.length) (hx0 : x = ρ a.1 + a.2) (hk : tk_ok D cl A s H0 KT F B0 ws0 nL (E, L, K, M, cs, ss) ρ B ws tys H locs ls lv st) (hg : tk_ag nA ρ0 E.length ρ) (hK : tk_stk ρ B E.length K' st') : ∀ (os : List Int) (k : Int), (∀ q ∈ tk_tab pc E a K' k os, tk_J p l e R s m args below meth c Q D cl A H0 KT F B0 ws0 nL nA ρ0 q.1 (q.2.1, L, q.2.2, M, cs, ss)) → ∀ (j : Nat) (o : Int), os[j]? = some o → x = k + j → W p l e R s m args below meth c H locs cs ss Q (F0 m ((pc : Int) + o).toNat ls st')
  | [], _, _, j, o, ho, _ => by simp at ho
  | o1 :: os, k, hq, 0, o, ho, hj => by
    cases ho
    have h0 := hk.2.1
    refine tk_J.s1 (fun q h => hq q (List.mem_append.mpr (Or.inl h))) hk hg ha h0.1 (by decide) ?_ hK
    have := h0.2
    show ρ a.1 + a.2 = ρ 0 + k
    omega
  | o1 :: os, k, hq, j + 1, o, ho, hj => tk_J.tab ha hx0 hk hg hK os (k + 1) (fun q h => hq q (List.mem_append.mpr (Or.inr h))) j o (by simpa using ho) (by omega)
/-- states that are as they were, with more symbols -/
def tk_xt (E : tk_E) (ρ : Nat → Int) (E' : tk_E) : Prop := ∃ ρ' : Nat → Int, tk_env ρ' E' ∧ (∀ k, k < E.length → ρ' k = ρ k) ∧ E.length ≤ E'.length
theorem tk_s1.ex {r tgt : Nat} {a b : tk_P} (hE : tk_env ρ E) (ha : a.1 < E.length) (hb : b.1 < E.length) (h1r : r ≠ 1) (hr : kc_rel r (ρ a.1 + a.2) (ρ b.1 + b.2)) : ∃ q ∈ tk_s1 r tgt E a b K', q.1 = tgt ∧ q.2.2 = K' ∧ tk_xt E ρ q.2.1 := by
  obtain ⟨E', ρ', g1, g2, g3, g4⟩ := tk_c1.ok hE ha hb h1r hr
  unfold tk_s1
  rw [g1]
  exact ⟨_, List.mem_cons_self, rfl, rfl, ρ', g2, g3, g4⟩
theorem tk_ne.ex {tgt : Nat} {a b : tk_P} (hE : tk_env ρ E) (ha : a.1 < E.length) (hb : b.1 < E.length) (hr : ρ a.1 + a.2 ≠ ρ b.1 + b.2) : ∃ q ∈ tk_ne tgt E a b K', q.1 = tgt ∧ q.2.2 = K' ∧ tk_xt E ρ q.2.1 := by
  unfold tk_ne
  split
  · rename_i hc
    have hc := tk_bq hc
    split
    · rename_i h2
      rw [hc, h2] at hr
      exact absurd rfl hr
    · exact ⟨_, List.mem_cons_self, rfl, rfl, ρ, hE, fun _ _ => rfl, Nat.le_refl _⟩
  · split
    · rcases Int.lt_or_gt_of_ne hr with h2 | h2
      · obtain ⟨q, h3, h4⟩ := tk_s1.ex (tgt := tgt) (K' := K') hE ha hb (show (2 : Nat) ≠ 1 by decide) h2
        exact ⟨q, List.mem_append.mpr (Or.inl h3), h4⟩
      · obtain ⟨q, h3, h4⟩ := tk_s1.ex (tgt := tgt) (K' := K') hE ha hb (show (4 : Nat) ≠ 1 by decide) h2
        exact ⟨q, List.mem_append.mpr (Or.inr h3), h4⟩
    · obtain ⟨b1, b2⟩ := tk_B2.ok hE a.1 b.1
      split
      · rename_i h2
        exact tk_s1.ex hE ha hb (show (4 : Nat) ≠ 1 by decide) (show ρ b.1 + b.2 < ρ a.1 + a.2 by omega)
      · split
        · rename_i h2
          exact tk_s1.ex hE ha hb (show (2 : Nat) ≠ 1 by decide) (show ρ a.1 + a.2 < ρ b.1 + b.2 by omega)
        · exact ⟨_, List.mem_cons_self, rfl, rfl, ρ, hE, fun _ _ => rfl, Nat.le_refl _⟩
theorem tk_ok.mv {E' : tk_E} {ρ' : Nat → Int} (hk : tk_ok D cl A s H0 KT F B0 ws0 nL (E, L, K, M, cs, ss) ρ B ws tys H locs ls lv st) (g3 : tk_env ρ' E') (g1 : ∀ k, k < E.length → ρ' k = ρ k) (g4 : E.length ≤ E'.length) : tk_ok D cl A s H0 KT F B0 ws0 nL (E', L, K, M, cs, ss) ρ' B ws tys H locs ls lv st := by
  obtain ⟨hE, h0, h1, h2, h3, h4, hW⟩ := hk
  exact ⟨g3, ⟨Nat.lt_of_lt_of_le h0.1 g4, by rw [g1 0 h0.1]; exact h0.2⟩, h1.ext g1 (tk_le.rf B) g4, h2, tk_stk.ext g1 (tk_le.rf B) g4 h3, h4.ext g1 g4, hW⟩
theorem tk_J.lkn {a : tk_P} {x : Int} {tgt : Nat} : ∀ (os : List (Int × Int)) (E : tk_E) (ρ : Nat → Int), a.1 < E.length → x = ρ a.1 + a.2 → tk_stk ρ B E.length K' st' → tk_ok D cl A s H0 KT F B0 ws0 nL (E, L, K, M, cs, ss) ρ B ws tys H locs ls lv st → tk_ag nA ρ0 E.length ρ → (∀ q ∈ tk_lkn tgt E a K' os, tk_J p l e R s m args below meth c Q D cl A H0 KT F B0 ws0 nL nA ρ0 q.1 (q.2.1, L, q.2.2, M, cs, ss)) → (∀ q ∈ os, q.1 ≠ x) → W p l e R s m args below meth c H locs cs ss Q (F0 m tgt ls st')
  | [], E, ρ, ha, hx0, hK, hk, hg, k, _ => tk_J.go (k _ List.mem_cons_self) hk hg hK
  | o :: os, E, ρ, ha, hx0, hK, hk, hg, k, hq => by
    have h2 := hq o List.mem_cons_self
    have h0 : 0 < E.length ∧ ρ 0 = 0 := hk.2.1
    obtain ⟨q, h3, h4, h5, ρ', g3, g1, g4⟩ := tk_ne.ex (tgt := tgt) (K' := K') (a := a) (b := (0, o.1)) hk.1 ha h0.1 (by dsimp only; omega)
    exact tk_J.lkn os q.2.1 ρ' (Nat.lt_of_lt_of_le ha g4) (by rw [g1 _ ha]; exact hx0) (tk_stk.ext g1 (tk_le.rf B) g4 hK) (hk.mv g3 g1 g4) (hg.ext g1 g4) (fun q2 hq2 => k q2 (List.mem_flatMap.mpr ⟨q, h3, hq2⟩)) (fun q h => hq q (List.mem_cons_of_mem _ h))
theorem tk_J.lks {a : tk_P} {x : Int} {dflt : Int} (ha : a.1 < E.length) (hx0 : x = ρ a.1 + a.2) (hk : tk_ok D cl A s H0 KT F B0 ws0 nL (E, L, K, M, cs, ss) ρ B ws tys H locs ls lv st) (hg : tk_ag nA ρ0 E.length ρ) (hK : tk_stk ρ B E.length K' st') : ∀ (os : List (Int × Int)), (∀ q ∈ tk_lks pc E a K' os, tk_J p l e R s m args below meth c Q D cl A H0 KT F B0 ws0 nL nA ρ0 q.1 (q.2.1, L, q.2.2, M, cs, ss)) → (∃ q ∈ os, q.1 = x) → W p l e R s m args below meth c H locs cs ss Q (F0 m ((pc : Int) + Op.lookupswitch.offset os dflt x).toNat ls st')
  | [], _, h => by obtain ⟨q, h, -⟩ := h; cases h
  | o1 :: os, hq, h => by
    by_cases e1 : o1.1 = x
    · rw [show o1 = (o1.1, o1.2) from rfl, Op.lookupswitch.offset_cons, if_pos e1]
      have h0 := hk.2.1
      refine tk_J.s1 (fun q h => hq q (List.mem_append.mpr (Or.inl h))) hk hg ha h0.1 (by decide) ?_ hK
      have := h0.2
      show ρ a.1 + a.2 = ρ 0 + o1.1
      omega
    · rw [show o1 = (o1.1, o1.2) from rfl, Op.lookupswitch.offset_cons, if_neg e1]
      refine tk_J.lks ha hx0 hk hg hK os (fun q h => hq q (List.mem_append.mpr (Or.inr h))) ?_
      obtain ⟨q, h1, h2⟩ := h
      rcases List.mem_cons.mp h1 with h3 | h3
      · subst h3; exact absurd h2 e1
      · exact ⟨q, h3, h2⟩
set_option maxHeartbeats 8000000 in
theorem tk_x2.ok {i : Instr} {len : Nat} {succ : List tk_O} (h : tk_x2 i pc E K = some succ) (hx : p.tables.exec = Jvm.exec) (hb : c.code = cc) (hd : decode cc pc = .ok (i, len)) (hlen : kc_l2 i len = true)
    (k : ∀ q ∈ succ, tk_J p l e R s m args below meth c Q D cl A H0 KT F B0 ws0 nL nA ρ0 q.1 (q.2.1, L, q.2.2, M, cs, ss)) : tk_J p l e R s m args below meth c Q D cl A H0 KT F B0 ws0 nL nA ρ0 pc (E, L, K, M, cs, ss) := by
  intro ρ B ws tys H locs ls lv st hk hg
  have h0 : 0 < E.length ∧ ρ 0 = 0 := hk.2.1
  have hst : tk_stk ρ B E.length K st := hk.2.2.2.2.1
  have hg : tk_ag nA ρ0 E.length ρ := hg
  unfold tk_x2 at h
  split at h
  · cases of_decide_eq_true hlen
    split at h
    · rename_i ho
      cases h
      exact lv_goto hx hb hd (kc_up.at ho) (tk_J.go (k _ List.mem_cons_self) hk hg hst)
    · cases h
  · cases of_decide_eq_true hlen
    split at h
    · rename_i a K2
      split at h
      · rename_i ho
        cases h
        obtain ⟨v, st', rfl, hlt, ⟨x, rfl, ex⟩, hst'⟩ := tk_stk.uncons hst
        exact kc_if0 ex (show ρ 0 + 0 = 0 by omega) hx hb hd (kc_up.at ho) (fun hr => tk_J.sc (fun q h => k q (List.mem_append.mpr (Or.inl h))) hk hg hlt h0.1 hr hst') (fun hr => tk_J.sc (fun q h => k q (List.mem_append.mpr (Or.inr h))) hk hg hlt h0.1 hr hst')
      · cases h
    · cases h
  · cases of_decide_eq_true hlen
    split at h
    · rename_i b a K2
      split at h
      · rename_i ho
        cases h
        obtain ⟨v, st', rfl, hlt, ⟨x, rfl, ex⟩, hst'⟩ := tk_stk.uncons hst
        obtain ⟨v2, st2, rfl, hlt2, ⟨x2, rfl, ex2⟩, hst2⟩ := tk_stk.uncons hst'
        exact kc_icmp ex2 ex hx hb hd (kc_up.at ho) (fun hr => tk_J.sc (fun q h => k q (List.mem_append.mpr (Or.inl h))) hk hg hlt2 hlt hr hst2) (fun hr => tk_J.sc (fun q h => k q (List.mem_append.mpr (Or.inr h))) hk hg hlt2 hlt hr hst2)
      · cases h
    · cases h
  · cases of_decide_eq_true hlen
    split at h
    · rename_i t a K2
      split at h
      · rename_i ho
        cases h
        obtain ⟨v, st', rfl, hlt, hv, hst'⟩ := tk_stk.uncons hst
        rcases (tk_vn.ref ho.2).mp hv with ⟨rfl, ex⟩ | ⟨j, r, rfl, -, ex⟩
        · exact lv_ifnullN hx hb hd (kc_up.at ho.1) (tk_J.nul (fun q h => k q (List.mem_append.mpr (Or.inl h))) hk hg ex hst')
        · exact lv_ifnull hx hb hd (tk_J.non (fun q h => k q (List.mem_append.mpr (Or.inr h))) hk hg (by dsimp only at ex; omega) hst')
      · cases h
    · cases h
  · cases of_decide_eq_true hlen
    split at h
    · rename_i t a K2
      split at h
      · rename_i ho
        cases h
        obtain ⟨v, st', rfl, hlt, hv, hst'⟩ := tk_stk.uncons hst
        rcases (tk_vn.ref ho.2).mp hv with ⟨rfl, ex⟩ | ⟨j, r, rfl, -, ex⟩
        · exact lv_ifnonnullN hx hb hd (tk_J.nul (fun q h => k q (List.mem_append.mpr (Or.inr h))) hk hg ex hst')
        · exact lv_ifnonnull hx hb hd (kc_up.at ho.1) (tk_J.non (fun q h => k q (List.mem_append.mpr (Or.inl h))) hk hg (by dsimp only at ex; omega) hst')
      · cases h
    · cases h
  · rename_i o lo hi os
    split at h
    · rename_i a K2
      split at h
      · rename_i ho
        rw [Bool.and_eq_true, Bool.and_eq_true] at ho
        have hsz := of_decide_eq_true ho.2
        have ho := ho.1
        cases h
        obtain ⟨v, st', rfl, hlt, ⟨x, rfl, ex⟩, hst'⟩ := tk_stk.uncons hst
        dsimp only at ex hlt
        by_cases c1 : x.toInt < lo
        · exact lv_tableOut hx hb hd (Or.inl c1) (kc_up.at ho.1) (tk_J.s1 (fun q h => k q (List.mem_append.mpr (Or.inr (List.mem_append.mpr (Or.inl h))))) hk hg hlt h0.1 (by decide) (by show ρ a.1 + a.2 < ρ 0 + lo; omega) hst')
        · by_cases c2 : hi < x.toInt
          · exact lv_tableOut hx hb hd (Or.inr c2) (kc_up.at ho.1) (tk_J.s1 (fun q h => k q (List.mem_append.mpr (Or.inr (List.mem_append.mpr (Or.inr h))))) hk hg hlt h0.1 (by decide) (by show ρ 0 + hi < ρ a.1 + a.2; omega) hst')
          · cases hq : os[(x.toInt - lo).toNat]? with
            | none =>
              have := Array.getElem?_eq_none_iff.mp hq
              omega
            | some o2 =>
              have hq2 : os.toList[(x.toInt - lo).toNat]? = some o2 := by rw [Array.getElem?_toList]; exact hq
              exact lv_tableIn hx hb hd c1 c2 hq (kc_up.at (List.all_eq_true.mp ho.2 o2 (List.mem_of_getElem? hq2))) (tk_J.tab (x := x.toInt) hlt ex hk hg hst' os.toList lo (fun q h => k q (List.mem_append.mpr (Or.inl h))) _ _ hq2 (by omega))
      · cases h
    · cases h
  · rename_i o ps
    split at h
    · rename_i a K2
      split at h
      · rename_i ho
        rw [Bool.and_eq_true, Bool.and_eq_true] at ho
        cases h
        obtain ⟨v, st', rfl, hlt, ⟨x, rfl, ex⟩, hst'⟩ := tk_stk.uncons hst
        by_cases c1 : ∃ q ∈ ps.toList, q.1 = x.toInt
        · exact lv_lookup hx hb hd ho.2 rfl (kc_up.at (kc_lk_some ps.toList ho.1.2 c1)) (tk_J.lks (x := x.toInt) hlt ex hk hg hst' ps.toList (fun q h => k q (List.mem_append.mpr (Or.inl h))) c1)
        · have c2 : ∀ q ∈ ps.toList, q.1 ≠ x.toInt := fun q h e => c1 ⟨q, h, e⟩
          exact lv_lookup hx hb hd ho.2 (kc_lk_none ps.toList c2) (kc_up.at ho.1.1) (tk_J.lkn (x := x.toInt) ps.toList E ρ hlt ex hst' hk hg (fun q h => k q (List.mem_append.mpr (Or.inr h))) c2)
      · cases h
    · cases h
  · cases h
set_option maxHeartbeats 4000000 in
theorem tk_x3.ok {j : Instr} {succ : List tk_O} (h : tk_x3 j pc E K = some succ) (hx : p.tables.exec = Jvm.exec) (hb : c.code = cc) (hd : decode cc pc = .ok (.lcmp, 1)) (hd2 : decode cc (pc + 1) = .ok (j, 3))
    (k : ∀ q ∈ succ, tk_J p l e R s m args below meth c Q D cl A H0 KT F B0 ws0 nL nA ρ0 q.1 (q.2.1, L, q.2.2, M, cs, ss)) : tk_J p l e R s m args below meth c Q D cl A H0 KT F B0 ws0 nL nA ρ0 pc (E, L, K, M, cs, ss) := by
  intro ρ B ws tys H locs ls lv st hk hg
  have h0 : 0 < E.length ∧ ρ 0 = 0 := hk.2.1
  have hst : tk_stk ρ B E.length K st := hk.2.2.2.2.1
  have hg : tk_ag nA ρ0 E.length ρ := hg
  unfold tk_x3 at h
  split at h
  · split at h
    · rename_i q o b a K2
      split at h
      · rename_i ho
        cases h
        obtain ⟨v, st', rfl, hlt, ⟨x, rfl, ex⟩, hst'⟩ := tk_stk.uncons hst
        obtain ⟨v2, st2, rfl, hlt2, ⟨x2, rfl, ex2⟩, hst2⟩ := tk_stk.uncons hst'
        refine W.lcmp hx hb hd ?_
        exact kc_if0 (u := (lg_cmp x2 x).toInt) (v := 0) rfl rfl hx hb hd2 (kc_up.at ho) (fun hr => tk_J.sc (fun q h => k q (List.mem_append.mpr (Or.inl h))) hk hg hlt2 hlt (kc_lcmp_rel ex2 ex rfl hr) hst2) (fun hr => tk_J.sc (fun q h => k q (List.mem_append.mpr (Or.inr h))) hk hg hlt2 hlt (kc_lcmp_rel ex2 ex rfl hr) hst2)
      · cases h
    · cases h
  · cases h
end TG
