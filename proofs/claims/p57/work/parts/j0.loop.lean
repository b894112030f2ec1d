/-! ===== the law's loop ===== -/
section JA
variable {p : Program} {l : Launch} {e : Env} {R : Room} {s : State} {m : MethodId} {args : Array Value} {below : List Frame} {meth : Method} {c : Code} {Q : State → Prop}
variable {D : va_G} {A : Nat → Prop} {H0 : Heap} {B0 : tk_B} {Ln : Nat} {xs : Nat → Int32}
/-- the head again, behind a round -/
theorem tm_head {ρ ρ' : Nat → Int} {b d : Bool} {X : tm_X} {cs ss : Nat} {B : tk_B} {ws : va_W} {tys : List (ClassId × FieldType)} {H : Heap} {locs : List Loc} {ls : Array Slot} {lv : List (Nat × Value)} {st : List Value} (hv : ∀ k, k < 10 → tk_dv ρ k (tk_at tm_E0 k) (ρ k)) (hR : tp_R ρ) (hG : tm_G D A s H0 B0 Ln xs tp_n ρ X cs ss ρ' B ws tys H locs ls lv st) (h : tp_in b d X = true) : ∃ ρ2 : Nat → Int, tm_G D A s H0 B0 Ln xs 10 ρ2 (tp_h b d) cs ss ρ2 B ws tys H locs ls lv st ∧ ρ2 10 = ρ 10 + 6 ∧ tp_R ρ2 := by
  unfold tp_in at h
  split at h
  · rename_i ys hys
    rw [Bool.and_eq_true] at h
    have h0 := of_decide_eq_true h.1
    obtain ⟨hk, hg, h10, hsc, hV⟩ := hG
    have hag : ∀ k, k < tp_n → ρ' k = ρ k := hg.2
    have hn : 10 < tp_n := by decide
    obtain ⟨g1, -, -⟩ := tk_wi.ok (E0 := tm_E0) (tm_wiU (cs := cs) (ss := ss) hys) (by decide) rfl hk (fun k hk => by
      rw [hag k (by omega)]
      exact (hv k hk).ext (fun j hj => hag j (by omega)))
    have e10 : tk_rw 10 ys ρ' 10 = ρ 10 + 6 := by
      rw [tk_rw.ge (x := (0, 10, 0, 6)) (Nat.le_refl 10) h0]
      show ρ' 10 + 6 = ρ 10 + 6
      rw [hag 10 hn]
    have elt : ∀ k, k < 10 → tk_rw 10 ys ρ' k = ρ k := fun k hk => by
      rw [tk_rw.lt hk, hag k (by omega)]
    refine ⟨tk_rw 10 ys ρ', ⟨g1, ⟨Nat.le_of_ble_eq_true rfl, fun _ _ => rfl⟩, ⟨Nat.le_refl _, by rw [elt 1 (by decide)]; exact h10.2⟩, fun q hq => absurd hq List.not_mem_nil, ?_⟩, e10, tp_rq.ok hk.1 hag hR h.2⟩
    unfold tm_V at hV ⊢
    rw [elt 5 (by decide), elt 6 (by decide), elt 7 (by decide), elt 8 (by decide), elt 9 (by decide)]
    exact hV
  · cases h
theorem tm_loop (hC : tm_C p R s m args c A H0 B0 Ln xs) (hex : ∀ (ρh : Nat → Int) (cs ss : Nat) (X : tm_X), cs ≤ 137232 → ss ≤ 8690554 → X.2.2.1 = [] → tm_J p l e R s m args below meth c Q D A H0 B0 Ln xs tp_n ρh cs ss 2176 X) : ∀ (n r : Nat) (b d : Bool) (cs ss : Nat), 513 ≤ r + n → cs ≤ 54 * r + 261 → ss ≤ 8220 * r + (if b = true then 40000 else 0) + 122554 → ∀ (ρ : Nat → Int) (B : tk_B) (ws : va_W) (tys : List (ClassId × FieldType)) (H : Heap) (locs : List Loc) (ls : Array Slot) (lv : List (Nat × Value)) (st : List Value), tm_G D A s H0 B0 Ln xs 10 ρ (tp_h b d) cs ss ρ B ws tys H locs ls lv st → tp_R ρ → ρ 10 = 6 * (r : Int) → W p l e R s m args below meth c H locs cs ss Q (F0 m 18 ls st) := by
  intro n
  induction n with
  | zero =>
    intro r b d cs ss h1 h2 h3 ρ B ws tys H locs ls lv st hG hR h10
    exfalso
    have hE : tk_env ρ (tm_E0 ++ (tp_w b d).1) := hG.1.1
    have h4 : ρ 10 ≤ (3072 : Int) := (hE 10).2.1
    omega
  | succ n ih =>
    intro r b d cs ss h1 h2 h3 ρ B ws tys H locs ls lv st hG hR h10
    have hE : tk_env ρ (tm_E0 ++ (tp_w b d).1) := hG.1.1
    have h4 : ρ 10 ≤ (3072 : Int) := (hE 10).2.1
    have hr : r ≤ 512 := by omega
    have hb : (if b = true then 40000 else 0) ≤ 40000 := by split <;> omega
    have hcs : cs ≤ 100000 := by omega
    have hss : ss ≤ 8000000 := by omega
    have m1 : (tk_Tmi tt_T 0).2.2.1 = 137232 := rfl
    have m2 : (tk_Tmi tt_T 0).2.2.2.1 = 8690554 := rfl
    have hv : ∀ k, k < 10 → tk_dv ρ k (tk_at tm_E0 k) (ρ k) := fun k hk => by
      have := hE k
      rw [tk_at.app (show k < tm_E0.length from hk)] at this
      exact this
    have hfin : ∀ (dc ds : Nat) (X : tm_X), tp_fin b dc ds X = true → tm_J p l e R s m args below meth c Q D A H0 B0 Ln xs tp_n ρ (cs + dc) (ss + ds) 18 X := by
      intro dc ds X hX ρ' B' ws' tys' H' locs' ls' lv' st' hG'
      unfold tp_fin at hX
      obtain ⟨⟨b', d'⟩, -, hq⟩ := List.any_eq_true.mp hX
      simp only [Bool.and_eq_true] at hq
      obtain ⟨⟨⟨q1, q2⟩, q3⟩, q4⟩ := hq
      have q2 := Nat.le_of_ble_eq_true q2
      have q3 := Nat.le_of_ble_eq_true q3
      obtain ⟨ρ2, hG2, e2, hR2⟩ := tm_head hv hR hG' q1
      refine ih (r + 1) b' d' (cs + dc) (ss + ds) (by omega) (by omega) ?_ ρ2 B' ws' tys' H' locs' ls' lv' st' hG2 hR2 (by omega)
      cases b <;> cases b' <;> simp at q3 q4 h3 ⊢ <;> omega
    have ha := tm_aa b d
    unfold tm_all at ha
    split at ha
    · rename_i ns hns
      have hJ : tm_J p l e R s m args below meth c Q D A H0 B0 Ln xs tp_n ρ cs ss 18 (tp_h b d) := (tm_go.ok hC (by omega) (fun pc q hq => absurd hq List.not_mem_nil) hns (fun q hq => tm_do.ok (b := b) hC ⟨hcs, hss⟩ hR (Nat.le_refl _) hfin (fun X hX => hex ρ cs ss X (by omega) (by omega) hX) 200 0 0 q.1 q.2 (List.all_eq_true.mp ha q hq))).1 _ List.mem_cons_self
      obtain ⟨g1, g2, g3, g4, g5⟩ := hG
      exact hJ ρ B ws tys H locs ls lv st ⟨g1, ⟨Nat.le_of_ble_eq_true rfl, fun _ _ => rfl⟩, ⟨by decide, g3.2⟩, g4, g5⟩
    · cases ha
end JA
