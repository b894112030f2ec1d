theorem kc_subL.ok {f : kc_V → kc_V → Bool} : ∀ {as bs : List kc_V}, kc_subL f as bs = true → as.length = bs.length ∧ ∀ (j : Nat) (a b : kc_V), as[j]? = some a → bs[j]? = some b → f a b = true
  | [], [], _ => ⟨rfl, fun j a b h => by simp at h⟩
  | a :: as, b :: bs, h => by
    unfold kc_subL at h
    rw [Bool.and_eq_true] at h
    obtain ⟨h1, h2⟩ := kc_subL.ok h.2
    refine ⟨by rw [List.length_cons, List.length_cons, h1], fun j a1 b1 ha hb => ?_⟩
    cases j with
    | zero => cases ha; cases hb; exact h.1
    | succ j => exact h2 j a1 b1 (by simpa using ha) (by simpa using hb)
  | [], _ :: _, h => by cases h
  | _ :: _, [], h => by cases h
theorem kc_subH.ok {n0 : Nat} {ws : List kc_V} : ∀ {as bs : List kc_G}, kc_subH n0 ws as bs = true → as.length = bs.length ∧ ∀ (j : Nat) (a b : kc_G), as[j]? = some a → bs[j]? = some b → kc_subG n0 ws a b = true
  | [], [], _ => ⟨rfl, fun j a b h => by simp at h⟩
  | a :: as, b :: bs, h => by
    unfold kc_subH at h
    rw [Bool.and_eq_true] at h
    obtain ⟨h1, h2⟩ := kc_subH.ok h.2
    refine ⟨by rw [List.length_cons, List.length_cons, h1], fun j a1 b1 ha hb => ?_⟩
    cases j with
    | zero => cases ha; cases hb; exact h.1
    | succ j => exact h2 j a1 b1 (by simpa using ha) (by simpa using hb)
  | [], _ :: _, h => by cases h
  | _ :: _, [], h => by cases h
theorem kc_subB.ok {E : kc_E} : ∀ {as : List kc_V} {bs : kc_E}, kc_subB E as bs = true → as.length = bs.length ∧ ∀ (j : Nat) (a : kc_V) (b : Int × Int), as[j]? = some a → bs[j]? = some b → a.1 = 1 ∧ a.2.1 < E.length ∧ b.1 ≤ kc_lo E a ∧ kc_hi E a ≤ b.2
  | [], [], _ => ⟨rfl, fun j a b h => by simp at h⟩
  | a :: as, b :: bs, h => by
    unfold kc_subB at h
    rw [Bool.and_eq_true] at h
    obtain ⟨h1, h2⟩ := kc_subB.ok h.2
    refine ⟨by rw [List.length_cons, List.length_cons, h1], fun j a1 b1 ha hb => ?_⟩
    cases j with
    | zero => cases ha; cases hb; exact of_decide_eq_true h.1
    | succ j => exact h2 j a1 b1 (by simpa using ha) (by simpa using hb)
  | [], _ :: _, h => by cases h
  | _ :: _, [], h => by cases h
/-- the numbers of the symbols of the widened state -/
def kc_rw (n0 : Nat) (ws : List kc_V) (ρ : Nat → Int) : Nat → Int := fun k => if k < n0 then ρ k else match ws[k - n0]? with
  | some a => ρ a.2.1 + a.2.2
  | none => 0
theorem kc_rw.lt {n0 : Nat} {ws : List kc_V} {ρ : Nat → Int} {k : Nat} (h : k < n0) : kc_rw n0 ws ρ k = ρ k := if_pos h
theorem kc_rw.ge {n0 : Nat} {ws : List kc_V} {ρ : Nat → Int} {k : Nat} {a : kc_V} (h : n0 ≤ k) (ha : ws[k - n0]? = some a) : kc_rw n0 ws ρ k = ρ a.2.1 + a.2.2 := by
  unfold kc_rw
  rw [if_neg (by omega), ha]
theorem kc_subF.ok {n0 n N : Nat} {ws : List kc_V} {ρ : Nat → Int} {β : Nat → Nat} {a b : kc_V} {v : Value} (h : kc_subF n0 ws a b = true) (hn : n0 + ws.length = n) (hv : kc_v ρ β N a v) : b.2.1 < n ∧ kc_v (kc_rw n0 ws ρ) β N b v := by
  unfold kc_subF at h
  rw [Bool.or_eq_true] at h
  rcases h with h | h
  · obtain ⟨rfl, h2⟩ := of_decide_eq_true h
    exact ⟨by omega, hv.ext h2 (fun k hk => kc_rw.lt hk) (fun _ _ => rfl) (Nat.le_refl _)⟩
  · obtain ⟨h1, h2, h3, h4, h5⟩ := of_decide_eq_true h
    have hl := (List.getElem?_eq_some_iff.mp h5).1
    refine ⟨by omega, ?_⟩
    obtain ⟨t, k, d⟩ := b
    obtain ⟨t', k', d'⟩ := a
    dsimp only at h1 h2 h3 h4 h5
    subst h2; subst h3; subst h4
    obtain ⟨x, rfl, ex⟩ := hv
    refine ⟨x, rfl, ?_⟩
    dsimp only at ex ⊢
    rw [kc_rw.ge h1 h5, ex]
    dsimp only
    omega
theorem kc_subG.ok {n0 n' n N : Nat} {ws : List kc_V} {ρ : Nat → Int} {β : Nat → Nat} {tys : List (ClassId × FieldType)} {g h : kc_G} {e : va_E} (hs : kc_subG n0 ws g h = true) (hn : n0 + ws.length = n) (he : kc_e ρ β N n' tys g e) : kc_e (kc_rw n0 ws ρ) β N n tys h e := by
  obtain ⟨k1, c1, t1, l1, d1, f1, v1⟩ := g
  obtain ⟨k2, c2, t2, l2, d2, f2, v2⟩ := h
  unfold kc_subG at hs
  dsimp only at hs
  rw [Bool.and_eq_true, Bool.and_eq_true] at hs
  obtain ⟨⟨h1, h2⟩, h3⟩ := hs
  obtain ⟨rfl, rfl, rfl, rfl⟩ := of_decide_eq_true h1
  obtain ⟨g1, g2⟩ := kc_subL.ok h3
  have hc : ∀ (j : Nat) (v : Value), kc_t β N (f1.getD j d1) v → kc_t β N (f2.getD j d2) v := fun j v hv => by
    rw [Bool.or_eq_true] at h2
    rcases h2 with h2 | h2
    · obtain ⟨rfl, rfl⟩ := of_decide_eq_true h2
      exact hv
    · rw [Bool.and_eq_true, Bool.and_eq_true] at h2
      obtain ⟨⟨a1, a2⟩, a3⟩ := h2
      have a4 : f2 = [] := List.isEmpty_iff.mp a3
      subst a4
      show kc_t β N d2 v
      rw [List.getD_eq_getElem?_getD] at hv
      cases hq : f1[j]? with
      | none => rw [hq] at hv; exact kc_sub.ok a1 hv
      | some f => rw [hq] at hv; exact kc_sub.ok (List.all_eq_true.mp a2 f (List.mem_of_getElem? hq)) hv
  unfold kc_e at he ⊢
  dsimp only at he ⊢
  split at he
  · obtain ⟨fs, e1, e2, e4⟩ := he
    refine ⟨fs, e1, e2.trans g1, fun j b v hb hv => ?_⟩
    have hj : j < v1.length := by rw [g1]; exact (List.getElem?_eq_some_iff.mp hb).1
    have ha : v1[j]? = some v1[j] := List.getElem?_eq_getElem hj
    exact kc_subF.ok (g2 j _ b ha hb) hn (e4 j _ v ha hv).2
  · obtain ⟨cA, t0, k, e1, e2, e4⟩ := he
    exact ⟨cA, t0, k, e1, e2, fun j hj => hc j _ (e4 j hj)⟩
  · obtain ⟨cA, t0, k, e1, e2, e4⟩ := he
    exact ⟨cA, t0, k, e1, e2, fun j hj => hc j _ (e4 j hj)⟩
  · obtain ⟨cA, t0, k, e1, e2, e4⟩ := he
    exact ⟨cA, t0, k, e1, e2, fun j hj => hc j _ (e4 j hj)⟩
  · exact he
section KN
variable {p : Program} {l : Launch} {e : Env} {R : Room} {s : State} {m : MethodId} {args : Array Value} {below : List Frame} {meth : Method} {c : Code} {Q : State → Prop}
variable {nL : Nat} {D : va_G} {cl : List vw_C} {A : Nat → Prop} {H0 : Heap}
variable {nA : Nat} {ρ0 : Nat → Int} {nB : Nat} {β0 : Nat → Nat}
/-- a state within the widened one is one of its states -/
theorem kc_within.ok {n0 : Nat} {an : kc_A} {W S : kc_S} {up : Bool} {ρ : Nat → Int} {β : Nat → Nat} {ws : va_W} {tys : List (ClassId × FieldType)} {H : Heap} {locs : List Loc} {ls : Array Slot} {lv : List (Nat × Value)} {st : List Value}
    (h : kc_within n0 an W S up = true) (h0 : 0 < n0) (hn0 : n0 ≤ W.1.length) (hk : kc_ok D cl A s H0 nL S.1 S.2.1 S.2.2.1 S.2.2.2.1 ρ β ws tys H locs ls lv st) (hE0 : ∀ k, k < n0 → (W.1.getD k (0, 0)).1 ≤ ρ k ∧ ρ k ≤ (W.1.getD k (0, 0)).2) :
    kc_ok D cl A s H0 nL W.1 W.2.1 W.2.2.1 W.2.2.2.1 (kc_rw n0 (kc_wit an S) ρ) β ws tys H locs ls lv st ∧ S.2.2.2.1.length = W.2.2.2.1.length ∧ (S.2.2.2.2.1 ≤ W.2.2.2.2.1 ∧ S.2.2.2.2.2 ≤ W.2.2.2.2.2) ∧ (up = true → n0 < W.1.length ∧ ρ n0 + 1 ≤ kc_rw n0 (kc_wit an S) ρ n0) := by
  unfold kc_within at h
  simp only [Bool.and_eq_true] at h
  obtain ⟨⟨⟨⟨⟨a1, a2⟩, a3⟩, a4⟩, a5⟩, a6⟩ := h
  obtain ⟨b1, b2⟩ := kc_subB.ok a1
  obtain ⟨c1, c2⟩ := kc_subL.ok a2
  obtain ⟨d1, d2⟩ := of_decide_eq_true a3
  obtain ⟨e1, e2⟩ := kc_subH.ok a4
  have a5 := of_decide_eq_true a5
  obtain ⟨hE, hz, hL, hl, hst, hK, hPw, hD, hS, hC⟩ := hk
  have hlen : n0 + (kc_wit an S).length = W.1.length := by
    rw [b1, List.length_drop]
    omega
  refine ⟨⟨fun k => ?_, ⟨by omega, by rw [kc_rw.lt h0]; exact hz.2⟩, fun i b hb hb0 => ?_, hl, ?_, hK, hPw, hD, hS, ?_⟩, e1, a5, fun hu => ?_⟩
  · by_cases h1 : k < n0
    · rw [kc_rw.lt h1]
      exact hE0 k h1
    · by_cases h2 : k < W.1.length
      · have h3 : k - n0 < (kc_wit an S).length := by omega
        have h4 : (kc_wit an S)[k - n0]? = some (kc_wit an S)[k - n0] := List.getElem?_eq_getElem h3
        have h5 : (W.1.drop n0)[k - n0]? = some W.1[k] := by
          rw [List.getElem?_drop, show n0 + (k - n0) = k by omega]
          exact List.getElem?_eq_getElem h2
        obtain ⟨g1, g2, g3, g4⟩ := b2 _ _ _ h4 h5
        have g5 := hE.at (kc_wit an S)[k - n0]
        rw [kc_rw.ge (by omega) h4, List.getD_eq_getElem?_getD, List.getElem?_eq_getElem h2]
        dsimp only [Option.getD]
        omega
      · have h3 : (kc_wit an S)[k - n0]? = none := List.getElem?_eq_none (by omega)
        rw [List.getD_eq_getElem?_getD, List.getElem?_eq_none (by omega)]
        unfold kc_rw
        rw [if_neg h1, h3]
        exact ⟨Int.le_refl _, Int.le_refl _⟩
  · have hi : i < S.2.1.length := by rw [c1]; exact (List.getElem?_eq_some_iff.mp hb).1
    have ha : S.2.1[i]? = some S.2.1[i] := List.getElem?_eq_getElem hi
    have hs := c2 i _ b ha hb
    unfold kc_subV at hs
    rw [Bool.or_eq_true] at hs
    rcases hs with hs | hs
    · exact absurd (of_decide_eq_true hs) hb0
    · have hne : (S.2.1[i]).1 ≠ 0 := by
        unfold kc_subF at hs
        rw [Bool.or_eq_true] at hs
        rcases hs with q | q
        · rw [(of_decide_eq_true q).1]; exact hb0
        · rw [(of_decide_eq_true q).2.2.2.1]; decide
      obtain ⟨g1, v, g2, g3⟩ := hL i _ ha hne
      obtain ⟨y1, y2⟩ := kc_subF.ok hs hlen g3
      rw [e1] at y2
      exact ⟨y1, v, g2, y2⟩
  · rw [d1] at hst
    rw [d2]
    cases st with
    | nil => trivial
    | cons _ _ => exact absurd hst id
  · refine ⟨hC.1.trans e1, fun k h hh => ?_⟩
    have hi : k < S.2.2.2.1.length := by rw [e1]; exact (List.getElem?_eq_some_iff.mp hh).1
    have ha : S.2.2.2.1[k]? = some S.2.2.2.1[k] := List.getElem?_eq_getElem hi
    obtain ⟨e0, w1, w2⟩ := hC.2 k _ ha
    have w3 := kc_subG.ok (e2 k _ h ha hh) hlen w2
    rw [e1] at w3
    exact ⟨e0, w1, w3⟩
  · subst hu
    simp only [Bool.not_true, Bool.false_or] at a6
    split at a6
    · rename_i a as ha
      obtain ⟨g1, g2⟩ := of_decide_eq_true a6
      have h4 : (kc_wit an S)[n0 - n0]? = some a := by rw [Nat.sub_self, ha]; rfl
      refine ⟨by rw [← hlen, ha]; simp, ?_⟩
      rw [kc_rw.ge (Nat.le_refl _) h4, g1]
      omega
    · cases a6
theorem kc_J.mono {ρ1 : Nat → Int} {β1 : Nat → Nat} {n1 N1 pc : Nat} {S : kc_S} (hg : kc_ag nA ρ0 nB β0 n1 N1 ρ1 β1) (h : kc_J p l e R s m args below meth c Q D cl A H0 nL nA ρ0 nB β0 pc S) : kc_J p l e R s m args below meth c Q D cl A H0 nL n1 ρ1 N1 β1 pc S :=
  fun ρ β ws tys H locs ls lv st hk hg2 => h ρ β ws tys H locs ls lv st hk ⟨Nat.le_trans hg.1 hg2.1, Nat.le_trans hg.2.1 hg2.2.1, fun k hk2 => (hg2.2.2.1 k (Nat.lt_of_lt_of_le hk2 hg.1)).trans (hg.2.2.1 k hk2), fun k hk2 => (hg2.2.2.2 k (Nat.le_trans hk2 hg.2.1)).trans (hg.2.2.2 k hk2)⟩
/-- a loop -/
theorem kc_J.loop {an : kc_A} {pc : Nat} {S Wd : kc_S} {os : List (Nat × kc_S)} (h1 : Wd.1.take S.1.length = S.1) (h2 : kc_within S.1.length an Wd S false = true) (h3 : ∀ o ∈ os, o.1 = pc → kc_within S.1.length an Wd o.2 true = true) (h4 : ∀ o ∈ os, o.1 ≠ pc → kc_J p l e R s m args below meth c Q D cl A H0 nL nA ρ0 nB β0 o.1 o.2)
    (hb : ∀ (ρ1 : Nat → Int) (β1 : Nat → Nat), kc_ag nA ρ0 nB β0 Wd.1.length Wd.2.2.2.1.length ρ1 β1 → (∀ o ∈ os, kc_J p l e R s m args below meth c Q D cl A H0 nL Wd.1.length ρ1 Wd.2.2.2.1.length β1 o.1 o.2) → kc_J p l e R s m args below meth c Q D cl A H0 nL Wd.1.length ρ1 Wd.2.2.2.1.length β1 pc Wd) : kc_J p l e R s m args below meth c Q D cl A H0 nL nA ρ0 nB β0 pc S := by
  have hn0 : S.1.length ≤ Wd.1.length := by
    have := congrArg List.length h1
    rw [List.length_take] at this
    omega
  have main : ∀ (μ : Nat) (ρ : Nat → Int) (β : Nat → Nat) (ws : va_W) (tys : List (ClassId × FieldType)) (H : Heap) (locs : List Loc) (ls : Array Slot) (lv : List (Nat × Value)) (st : List Value), ((Wd.1.getD S.1.length (0, 0)).2 - ρ S.1.length).toNat ≤ μ → 0 < S.1.length → nA ≤ S.1.length → kc_ok D cl A s H0 nL Wd.1 Wd.2.1 Wd.2.2.1 Wd.2.2.2.1 ρ β ws tys H locs ls lv st → kc_ag nA ρ0 nB β0 Wd.1.length Wd.2.2.2.1.length ρ β → W p l e R s m args below meth c H locs Wd.2.2.2.2.1 Wd.2.2.2.2.2 Q (F0 m pc ls st) := by
    intro μ
    induction μ with
    | zero =>
      intro ρ β ws tys H locs ls lv st hμ hz hA0 hk hg
      refine hb ρ β hg (fun o ho => ?_) ρ β ws tys H locs ls lv st hk ⟨Nat.le_refl _, Nat.le_refl _, fun _ _ => rfl, fun _ _ => rfl⟩
      by_cases e1 : o.1 = pc
      · intro ρ' β' ws' tys' H' locs' ls' lv' st' hk' hg'
        obtain ⟨g1, g2, g3, g4⟩ := kc_within.ok (h3 o ho e1) hz hn0 hk' (fun k hk2 => by rw [hg'.2.2.1 k (by omega)]; exact hk.1 k)
        obtain ⟨g5, g6⟩ := g4 rfl
        have g7 := g1.1 S.1.length
        have g8 := hg'.2.2.1 S.1.length g5
        omega
      · exact (h4 o ho e1).mono hg
    | succ μ ih =>
      intro ρ β ws tys H locs ls lv st hμ hz hA0 hk hg
      refine hb ρ β hg (fun o ho => ?_) ρ β ws tys H locs ls lv st hk ⟨Nat.le_refl _, Nat.le_refl _, fun _ _ => rfl, fun _ _ => rfl⟩
      by_cases e1 : o.1 = pc
      · intro ρ' β' ws' tys' H' locs' ls' lv' st' hk' hg'
        obtain ⟨g1, g2, g3, g4⟩ := kc_within.ok (h3 o ho e1) hz hn0 hk' (fun k hk2 => by rw [hg'.2.2.1 k (by omega)]; exact hk.1 k)
        obtain ⟨g5, g6⟩ := g4 rfl
        have g7 := g1.1 S.1.length
        have g8 := hg'.2.2.1 S.1.length g5
        rw [e1]
        refine W.widen g3.1 g3.2 (ih _ β' ws' tys' H' locs' ls' lv' st' (by omega) hz hA0 g1 ⟨by omega, by rw [← g2]; exact Nat.le_trans hg.2.1 (by rw [g2]; exact Nat.le_refl _), fun k hk2 => ?_, fun k hk2 => ?_⟩)
        · rw [kc_rw.lt (by omega), hg'.2.2.1 k (by omega)]
          exact hg.2.2.1 k hk2
        · rw [hg'.2.2.2 k (Nat.le_trans hk2 hg.2.1)]
          exact hg.2.2.2 k hk2
      · exact (h4 o ho e1).mono hg
  intro ρ β ws tys H locs ls lv st hk hg
  have hz : 0 < S.1.length := hk.2.1.1
  obtain ⟨g1, g2, g3, -⟩ := kc_within.ok h2 hz hn0 hk (fun k hk2 => by
    have h5 : Wd.1.getD k (0, 0) = S.1.getD k (0, 0) := by
      conv => rhs; rw [← h1]
      rw [List.getD_eq_getElem?_getD, List.getD_eq_getElem?_getD, List.getElem?_take, if_pos hk2]
    rw [h5]
    exact hk.1 k)
  refine W.widen g3.1 g3.2 (main _ _ β ws tys H locs ls lv st (Nat.le_refl _) hz hg.1 g1 ⟨Nat.le_trans hg.1 hn0, by rw [← g2]; exact hg.2.1, fun k hk2 => ?_, hg.2.2.2⟩)
  rw [kc_rw.lt (Nat.lt_of_lt_of_le hk2 hg.1)]
  exact hg.2.2.1 k hk2
end KN
