section TM
variable {p : Program} {l : Launch} {e : Env} {R : Room} {s : State} {m : MethodId} {args : Array Value} {below : List Frame} {meth : Method} {c : Code} {Q : State → Prop}
variable {D : va_G} {A : Nat → Prop} {H0 : Heap} {B0 : tk_B} {Ln : Nat} {xs : Nat → Int32} {nh : Nat} {ρh : Nat → Int}
variable {cs ss pc : Nat} {X : tm_X}
theorem tm_J.split {j : Nat} {iv : List (Int × Int)} {Ys : List tm_X} (h : tm_sp1 j iv X = some Ys) (k : ∀ Y ∈ Ys, tm_J p l e R s m args below meth c Q D A H0 B0 Ln xs nh ρh cs ss pc Y) : tm_J p l e R s m args below meth c Q D A H0 B0 Ln xs nh ρh cs ss pc X := by
  intro ρ B ws tys H locs ls lv st hG
  obtain ⟨hk, hg, h10, hsc, hv⟩ := hG
  obtain ⟨E, L, K, M, C⟩ := X
  obtain ⟨hE, h0, hL, hl, hst, hMm, hrest⟩ := id hk
  have e2 : tk_env ρ E := hE
  have st2 : tk_stk ρ B E.length K st := hst
  have z2 : 0 < E.length ∧ ρ 0 = 0 := h0
  have m2 : tk_mem ρ B E.length ws M := hMm
  have l2 : tk_loc ρ B E.length L lv := hL
  unfold tm_sp1 at h
  dsimp only at h
  split at h
  · rename_i v hvj
    split at h
    · rename_i hcd
      cases h
      rw [Bool.and_eq_true] at hcd
      have h1 := tk_bq hcd.1
      have hmem : v ∈ K := List.mem_of_getElem? hvj
      obtain ⟨hlt, w, hw⟩ := st2.mem hmem
      obtain ⟨t, a⟩ := v
      dsimp only at h1
      subst h1
      obtain ⟨x, rfl, ex⟩ := hw
      dsimp only at ex
      have hx := kc_i32 x
      obtain ⟨q, q1, q2, q3⟩ := tm_cov.ok (z := ρ a.1 + a.2) hcd.2 (by omega) (by omega)
      have hE' : tk_env ρ (tk_rf E a.1 (q.1 - a.2) (q.2 - a.2)) := tk_rf.ok e2 (by omega) (by omega)
      have hln : (tk_rf E a.1 (q.1 - a.2) (q.2 - a.2)).length = E.length := tk_rf.len _ _ _ _
      refine k _ (List.mem_map.mpr ⟨q, q1, rfl⟩) ρ B ws tys H locs ls lv st ⟨⟨hE', ⟨by show 0 < (tk_rf _ _ _ _).length; rw [hln]; exact z2.1, z2.2⟩, ?_, hl, ?_, ?_, hrest⟩, ?_, h10, ?_, hv⟩
      · show tk_loc ρ B (tk_rf _ _ _ _).length L lv
        rw [hln]; exact l2
      · show tk_stk ρ B (tk_rf _ _ _ _).length K st
        rw [hln]; exact st2
      · show tk_mem ρ B (tk_rf _ _ _ _).length ws M
        rw [hln]; exact m2
      · show tk_ag nh ρh (tk_rf _ _ _ _).length ρ
        rw [hln]; exact hg
      · show tm_sc ρ (tk_rf _ _ _ _).length xs C
        rw [hln]; exact hsc
    · cases h
  · cases h
theorem tm_mapM {α β : Type} {f : α → Option β} : ∀ {l : List α} {r : List β}, l.mapM f = some r → ∀ a ∈ l, ∃ b ∈ r, f a = some b
  | [], _, _, a, h => by cases h
  | x :: l, r, h, a, ha => by
    rw [List.mapM_cons] at h
    cases hx : f x with
    | none => rw [hx] at h; cases h
    | some y =>
      rw [hx] at h
      cases hl : l.mapM f with
      | none => rw [hl] at h; cases h
      | some ys =>
        rw [hl] at h
        cases h
        rcases List.mem_cons.mp ha with rfl | ha
        · exact ⟨y, List.mem_cons_self, hx⟩
        · obtain ⟨b, b1, b2⟩ := tm_mapM hl a ha
          exact ⟨b, List.mem_cons_of_mem _ b1, b2⟩
theorem tm_J.splits : ∀ {qs : List (Nat × List (Int × Int))} {Xs Ys : List tm_X}, tm_sps qs Xs = some Ys → (∀ Y ∈ Ys, tm_J p l e R s m args below meth c Q D A H0 B0 Ln xs nh ρh cs ss pc Y) → ∀ X ∈ Xs, tm_J p l e R s m args below meth c Q D A H0 B0 Ln xs nh ρh cs ss pc X
  | [], Xs, Ys, h, k => by
    cases h
    exact k
  | q :: qs, Xs, Ys, h, k => by
    unfold tm_sps at h
    split at h
    · rename_i Zs hZ
      intro X hX
      obtain ⟨b, b1, b2⟩ := tm_mapM hZ X hX
      exact tm_J.split b2 (fun Y hY => tm_J.splits h k Y (List.mem_flatten.mpr ⟨b, b1, hY⟩))
    · cases h
/-- the tables that a call goes by: tt_T, or tt_T2 -/
def tm_T (T : tk_T) (l : Launch) (D : va_G) (A : Nat → Prop) : Prop := (tk_TV T tw_U tw_cl tw_Ts tw_TXs ∧ tk_LV T tw_U tw_Ts tw_NWs) ∧ tk_TKT T = tk_TKT tt_T ∧ tk_Tmi T 0 = tk_Tmi tt_T 0
set_option maxHeartbeats 8000000 in
/-- a call by a contract -/
theorem tm_J.call {T : tk_T} {k : tk_K} {ts : List (tk_V × tk_V)} {r : tk_E × tk_M × List tk_Lx × List (tk_A × tm_X)} {P : (Nat → Int) → tk_B → va_W → Prop} {Z : (Nat → Int) → tk_B → va_W → tk_A → tk_B → va_W → Heap → Heap → Prop} (hT : tm_T T l D A) (hC : tm_C p R s m args c A H0 B0 Ln xs) (hcon : tl_Con T tw_U tw_Ts tw_NWs tw_TXs (tx_St A) l D tw_cl A k P Z) (h : tm_cl T k ts pc X = some r)
    (h1 : cs + (tk_Tmi T k.1).2.2.1 ≤ (tk_Tmi tt_T 0).2.2.1) (h2 : ss + (tk_Tmi T k.1).2.2.2.1 ≤ (tk_Tmi tt_T 0).2.2.2.1)
    {ρ : Nat → Int} {B : tk_B} {ws : va_W} {tys : List (ClassId × FieldType)} {H : Heap} {locs : List Loc} {ls : Array Slot} {lv : List (Nat × Value)} {st : List Value} (hG : tm_G D A s H0 B0 Ln xs nh ρh X cs ss ρ B ws tys H locs ls lv st)
    (hP : ∀ ρ1 : Nat → Int, tk_ag X.1.length ρ r.1.length ρ1 → tk_mem ρ1 B r.1.length ws r.2.1 → P (tk_rw 1 r.2.2.1 ρ1) B ws)
    (kk : ∀ (w : tk_A) (X' : tm_X), (w, X') ∈ r.2.2.2 → ∀ (ρ1 ρ' : Nat → Int) (B' : tk_B) (ws' : va_W) (tys' : List (ClassId × FieldType)) (H' : Heap) (locs' : List Loc) (st' : List Value), tk_ok D tw_cl A s H0 (tk_TKT tt_T) [] B0 ws' (tk_Tmi tt_T 0).1 (tm_S X' (cs + (tk_Tmi T k.1).2.2.1) (ss + (tk_Tmi T k.1).2.2.2.1)) ρ' B' ws' tys' H' locs' ls lv st' → tk_ag X.1.length ρ r.1.length ρ1 → tk_env ρ1 r.1 → tk_mem ρ1 B r.1.length ws r.2.1 → tk_ag r.1.length ρ1 X'.1.length ρ' → tm_sc ρ' X'.1.length xs X'.2.2.2.2 → tk_fr k.2.2.2.2.2 B0 ws ws' → Z (tk_rw 1 r.2.2.1 ρ1) B ws w B' ws' H H' → W p l e R s m args below meth c H' locs' (cs + (tk_Tmi T k.1).2.2.1) (ss + (tk_Tmi T k.1).2.2.2.1) Q (F0 m (pc + 3) ls st')) : W p l e R s m args below meth c H locs cs ss Q (F0 m pc ls st) := by
  have hX := hG.x (meth := meth) hC
  obtain ⟨hk, hg, h10, hsc, hv⟩ := hG
  obtain ⟨⟨hV, hLV⟩, hKT, hmi⟩ := hT
  obtain ⟨E, L, K, M, C⟩ := X
  unfold tm_cl at h
  dsimp only at h
  split at h
  · rename_i i n z hc hz
    split at h
    · rename_i r1 hcal
      split at h
      · rename_i hb
        have hb1 := Nat.eq_of_beq_eq_true hb
        split at h
        · rename_i ys hys
          split at h
          · rename_i rs hrs
            cases h
            dsimp only at hP kk
            rw [hKT] at hz
            have hk : tk_ok D tw_cl A s H0 (tk_TKT tt_T) [] B0 ws (tk_Tmi tt_T 0).1 (E, L, K, M, cs, ss) ρ B ws tys H locs ls lv st := hk
            obtain ⟨ρ1, hk1, hg1⟩ := tl_tcs (E := E) (E' := z.1) (M' := z.2) (L := L) (cs := cs) (ss := ss) hz hk
            have hk1 := tm_rb (F' := k.2.2.2.2.2) hk1
            rw [← hKT, ← hmi] at hk1
            have hX1 : tk_Cx T tw_U tw_Ts tw_NWs tw_TXs (tx_St A) 0 p R s m args meth c A H0 B0 z.1.length ρ1 := by
              have := hX.mono hg1
              obtain ⟨a1, a2, a3, a4, a5, a6, a7, a8, a9, a10⟩ := this
              rw [← hmi] at a3 a4 a8 a9
              exact ⟨a1, a2, a3, a4, a5, a6, a7, a8, a9, a10⟩
            have hcal' : tk_cal T tt_sc tt_nt 0 i n (z.1, L, K, z.2, cs, ss) = some (k.1, r1.2.1, r1.2.2) := by
              rw [← hb1]
              exact tm_calU hcal (by rw [hb1, hmi]; exact h1) (by rw [hb1, hmi]; exact h2)
            have hFF : k.2.2.2.2.2.all (fun q => tk_iG k.2.2.2.2.2 q.1 q.2.1 q.2.2) = true := List.all_eq_true.mpr (fun q hq => by
              unfold tk_iG
              exact List.any_eq_true.mpr ⟨q, hq, by simp [Nat.beq_refl, Nat.ble_eq]⟩)
            refine tl_app (k := k) (F := k.2.2.2.2.2) (S := (z.1, L, K, z.2, cs, ss)) hV hLV tw_Ts_good (tx_Sc A) ty_Tx hX1 hc hcal' hcon hFF (tm_wiU hys) hk1 tk_ag.rf (hP ρ1 hg1 hk1.2.2.2.2.2.1) (fun w hw => ?_)
            obtain ⟨r2, hr2, hap⟩ := tm_apLU hrs hw
            refine ⟨_, tm_apU hap, fun ρ3 B3 ws3 tys3 H3 locs3 st3 hk3 hg3 hg3' hf3 hle3 hz3 => ?_⟩
            rw [hKT, hmi] at hk3
            have hle : tk_le B0 B := hk.2.2.2.2.2.2.2.2.2.2.2.2.1
            exact kk w (tm_of r2 C) (List.mem_map.mpr ⟨(w, r2), hr2, rfl⟩) ρ1 ρ3 B3 ws3 tys3 H3 locs3 st3 (tm_rb hk3) hg1 hk1.1 hk1.2.2.2.2.2.1 hg3' ((hsc.ext hg1).ext hg3') (hf3.dn hle) hz3
          · cases h
        · cases h
      · cases h
    · cases h
  · cases h
theorem tm_T0 : tm_T tt_T l D A := ⟨⟨tw_V, tw_LV⟩, rfl, rfl⟩
/-- plain calls -/
theorem tm_J.try {qs : List (tk_K × List (tk_V × tk_V))} {ns : List (Nat × tm_X)} (hC : tm_C p R s m args c A H0 B0 Ln xs) (hr : cs ≤ (tk_Tmi tt_T 0).2.2.1 ∧ ss ≤ (tk_Tmi tt_T 0).2.2.2.1) : (∀ q ∈ qs, tx_Con l D A q.1) → tm_try pc X qs = some ns → (∀ q ∈ ns, tm_J p l e R s m args below meth c Q D A H0 B0 Ln xs nh ρh cs ss q.1 q.2) → tm_J p l e R s m args below meth c Q D A H0 B0 Ln xs nh ρh cs ss pc X := by
  induction qs with
  | nil =>
    intro _ h
    cases h
  | cons q qs ih =>
    intro hcon h k
    unfold tm_try at h
    split at h
    · rename_i r hcl
      split at h
      · rename_i hf
        cases h
        rw [Bool.and_eq_true] at hf
        have hz := hf.2
        unfold tm_z at hz
        rw [Bool.and_eq_true] at hz
        have z1 := tk_bq hz.1
        have z2 := tk_bq hz.2
        intro ρ B ws tys H locs ls lv st hG
        refine tm_J.call tm_T0 hC (tl_of (hcon q List.mem_cons_self)) hcl (by rw [z1]; exact hr.1) (by rw [z2]; exact hr.2) hG (fun _ _ _ => trivial) (fun w X' hw ρ1 ρ' B' ws' tys' H' locs' st' hk' hg1 _ _ hg' hsc' hf' _ => ?_)
        rw [z1, z2] at hk' ⊢
        obtain ⟨hk, hg, h10, hsc, hv⟩ := hG
        exact k _ (List.mem_map.mpr ⟨_, hw, rfl⟩) ρ' B' ws' tys' H' locs' ls lv st' ⟨hk', (hg.tr hg1).tr hg', h10, hsc', hv.far hf' hf.1⟩
      · cases h
    · exact ih (fun q' hq' => hcon q' (List.mem_cons_of_mem _ hq')) h k
theorem tm_go.ok {tab : Nat → List (tk_K × List (tk_V × tk_V))} {stp : List Nat} (hC : tm_C p R s m args c A H0 B0 Ln xs) (hr : cs ≤ (tk_Tmi tt_T 0).2.2.1 ∧ ss ≤ (tk_Tmi tt_T 0).2.2.2.1) (htab : ∀ pc, ∀ q ∈ tab pc, tx_Con l D A q.1) : ∀ {f : Nat} {todo outs outs' : List (Nat × tm_X)}, tm_go tab f stp todo outs = some outs' → (∀ q ∈ outs', tm_J p l e R s m args below meth c Q D A H0 B0 Ln xs nh ρh cs ss q.1 q.2) → (∀ q ∈ todo, tm_J p l e R s m args below meth c Q D A H0 B0 Ln xs nh ρh cs ss q.1 q.2) ∧ ∀ q ∈ outs, tm_J p l e R s m args below meth c Q D A H0 B0 Ln xs nh ρh cs ss q.1 q.2
  | 0, _, _, _, h, _ => by
    unfold tm_go at h
    cases h
  | f + 1, [], outs, outs', h, k => by
    unfold tm_go at h
    cases h
    exact ⟨fun q hq => absurd hq List.not_mem_nil, k⟩
  | f + 1, q :: rest, outs, outs', h, k => by
    have cons : ∀ {P : Nat × tm_X → Prop}, P q → (∀ o ∈ rest, P o) → ∀ o ∈ q :: rest, P o := fun h1 h2 o h3 => by
      rcases List.mem_cons.mp h3 with rfl | h3
      · exact h1
      · exact h2 o h3
    unfold tm_go at h
    split at h
    · obtain ⟨g1, g2⟩ := tm_go.ok hC hr htab h k
      exact ⟨cons (g2 q List.mem_cons_self) g1, fun o h1 => g2 o (List.mem_cons_of_mem _ h1)⟩
    · split at h
      · rename_i ns hns
        obtain ⟨g1, g2⟩ := tm_go.ok hC hr htab h k
        refine ⟨cons ?_ (fun o h1 => g1 o (List.mem_append.mpr (Or.inr h1))), g2⟩
        have hall : ∀ o ∈ ns, tm_J p l e R s m args below meth c Q D A H0 B0 Ln xs nh ρh cs ss o.1 o.2 := fun o h1 => g1 o (List.mem_append.mpr (Or.inl h1))
        split at hns
        · exact tm_J.one hC hns hall
        · exact tm_J.try hC hr (htab q.1) hns hall
      · cases h
end TM
