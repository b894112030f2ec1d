/-! ===== a round of the law, by one check ===== -/
section IA
variable {l : Launch} {D : va_G} {A : Nat → Prop}
/-- a contract by hand, as one of the tables -/
theorem tn_Con.tk {k : tk_K} {Z : (Nat → Int) → tk_B → va_W → (Nat → Int) → tk_A → tk_B → va_W → Heap → Heap → Prop} (h : ty_NCon l D A k (fun _ _ _ => True) Z) : tx_Con l D A k := by
  intro ρ B ws tys H vs hE h0 has hMm hPw hD hC hA hcap
  refine Jvm.Free.MetFree.mono (h ρ B ws tys H vs hE h0 has hMm hPw hD hC hA hcap trivial) (fun _ _ q => q) (fun _ _ _ _ _ q => q) (fun a st o t _ q => ⟨?_, q.2⟩)
  obtain ⟨⟨w, hw, ρ', B', ws', tys', v, q0, q1, q2, q3, q4, q5, q6, q7, q8, q9, q10, q11, q12, q13, q14⟩, -⟩ := q
  exact ⟨tk_pS tt_T k w, List.mem_map.mpr ⟨w, hw, rfl⟩, ρ', B', ws', tys', v, q0, q1, q2, q3, q4, q5, q6, q7, q8, q9, q10, q11, q12, q13⟩
/-- plain contracts beside the tables' -/
def tm_kp (id : Nat) : Option tk_K := match id with
  | 0 => some tvt_k | 1 => some tvb_k | 2 => some tnp_k | 3 => some tnl_k
  | 4 => some tvyl_k
  | 5 => some tvyh_k
  | 6 => some tvN0_k
  | 7 => some tvN1_k
  | 8 => some tvN2_k
  | 9 => some tvS0_k
  | 10 => some tvS1_k
  | 11 => some tvS2_k
  | 12 => some tvzl_k
  | 13 => some tvzh_k
  | 14 => some tvM0_k
  | 15 => some tvM1_k
  | 16 => some tvM2_k
  | _ => none
theorem tm_kp.ok {id : Nat} {k : tk_K} (h : tm_kp id = some k) : tx_Con l D A k := by
  unfold tm_kp at h
  split at h
  · cases h; exact tvt_c
  · cases h; exact tvb_c
  · cases h; exact tnp_con.tk
  · cases h; exact tnl_con.tk
  · cases h; exact tvyl_c
  · cases h; exact tvyh_c
  · cases h; exact tvN0_c
  · cases h; exact tvN1_c
  · cases h; exact tvN2_c
  · cases h; exact tvS0_c
  · cases h; exact tvS1_c
  · cases h; exact tvS2_c
  · cases h; exact tvzl_c
  · cases h; exact tvzh_c
  · cases h; exact tvM0_c
  · cases h; exact tvM1_c
  · cases h; exact tvM2_c
  · cases h
/-- .. with words on READINGS -/
def tm_kj (id : Nat) : Option (tk_K × tl_Y) := match id with
  | 0 => some (tvu_k, (3, 5, 6)) | 1 => some (tvm_k, (8, 10, 11)) | 2 => some (tvr_k, (6, 7, 8)) | 3 => some (tve_k, (5, 6, 7)) | 4 => some (tvk_k, (13, 14, 15)) | 5 => some (tvB_k, (13, 14, 15)) | 6 => some (tng_k, (4, 6, 7))
  | 7 => some (tvE0_k, (13, 14, 15))
  | 8 => some (tvE1_k, (13, 14, 15))
  | 9 => some (tvE2_k, (13, 14, 15))
  | 10 => some (tvG0_k, (13, 14, 15))
  | 11 => some (tvG1_k, (13, 14, 15))
  | 12 => some (tvG2_k, (13, 14, 15))
  | _ => none
theorem tm_kj.ok {id : Nat} {k : tk_K × tl_Y} (h : tm_kj id = some k) : ty_Con l D A k.1 (tl_JP k.2) (tl_JZ k.2) := by
  unfold tm_kj at h
  split at h
  · cases h; exact tvu_c
  · cases h; exact tvm_c
  · cases h; exact tvr_c
  · cases h; exact tve_c
  · cases h; exact tvk_c
  · cases h; exact tvB_c
  · cases h; exact tng_con.tl (fun _ _ _ _ _ _ _ _ _ q => q)
  · cases h; exact tvE0_c
  · cases h; exact tvE1_c
  · cases h; exact tvE2_c
  · cases h; exact tvG0_c
  · cases h; exact tvG1_c
  · cases h; exact tvG2_c
  · cases h
/-- .. over the second tables -/
def tm_k2 (id : Nat) : Option tk_K := match id with
  | 0 => some tu_k438 | 1 => some tu_k440 | 2 => some tu_k443 | 3 => some tu_k444
  | _ => none
theorem tm_k2.ok {id : Nat} {k : tk_K} (h : tm_k2 id = some k) : tm_Con2 l D A k := by
  unfold tm_k2 at h
  split at h
  · cases h; exact tm_c438
  · cases h; exact tm_c440
  · cases h; exact tm_c443
  · cases h; exact tm_c444
  · cases h
/-- .. with rooms by end -/
def tm_ka (id : Nat) : Option tk_K := match id with
  | 0 => some tvw_k | 1 => some tvs_k | 2 => some tvq_k | 3 => some tvp_k
  | _ => none
theorem tm_ka.ok {id : Nat} {k : tk_K} (h : tm_ka id = some k) : ty_Con l D A k (fun _ _ _ => True) ty_RZ := by
  unfold tm_ka at h
  split at h
  · cases h; exact tvw_c
  · cases h; exact tvs_c
  · cases h; exact tvq_c
  · cases h; exact tvp_c
  · cases h
/-- .. that take rooms -/
def tm_kc (id : Nat) : Option tk_K := match id with
  | 0 => some tu_k445 | 1 => some tu_k446
  | 1000 => some tvK0_k
  | 1001 => some tvK1_k
  | 1002 => some tvK2_k
  | _ => tu_K 437 id
theorem tm_kc.ok {id : Nat} {k : tk_K} (h : tm_kc id = some k) : tx_Con l D A k := by
  unfold tm_kc at h
  split at h
  · cases h; exact tm_c445
  · cases h; exact tm_c446
  · cases h; exact tvK0_c
  · cases h; exact tvK1_c
  · cases h; exact tvK2_c
  · exact ty_Ks id k h
/-- which way a call is taken, by which contract; what is touched -/
abbrev tm_L : Type := Nat × Nat × List (tk_V × tk_V)
def tm_pl1 (f : tm_K) (k : tk_K) (ts : List (tk_V × tk_V)) (dc ds pc : Nat) (X : tm_X) : Bool := match tm_try pc X [(k, ts)] with
  | some ns => ns.all (fun q => f dc ds q.1 q.2)
  | none => false
def tm_alt (f : tm_K) (a : tm_L) (dc ds pc : Nat) (X : tm_X) : Bool := match a.1 with
  | 0 => (match tu_K 437 a.2.1 with
    | some k => tm_pl1 f k a.2.2 dc ds pc X
    | none => false)
  | 1 => (match tm_kj a.2.1 with
    | some k => tm_jc k.1 k.2 a.2.2 (fun pc' X' => f dc ds pc' X') pc X
    | none => false)
  | 2 => (match tu_K 437 a.2.1, tu_K 437 (a.2.2.length + 411) with
    | some k, some k2 => tm_lc k k2 (fun pc' X' => f dc ds pc' X') pc X
    | _, _ => false)
  | 3 => (match tm_k2 a.2.1 with
    | some k => tm_rc tt_T2 k f dc ds pc X
    | none => false)
  | 4 => (match tm_ka a.2.1 with
    | some k => tm_ac k f dc ds pc X
    | none => false)
  | 5 => (match tm_kc a.2.1 with
    | some k => tm_rc tt_T k f dc ds pc X
    | none => false)
  | _ => (match tm_kp a.2.1 with
    | some k => tm_pl1 f k a.2.2 dc ds pc X
    | none => false)
abbrev tp_W : Type := List (Nat × List (Int × Int)) × List (List Nat × List tm_L)
def tm_do (tab : Nat → Option tp_W) (b : Bool) (ex : Nat) : Nat → tm_K
  | 0 => fun _ _ _ _ => false
  | f + 1 => fun dc ds pc X =>
    if Nat.beq pc 18 = true then tp_fin b dc ds X
    else if Nat.beq pc ex = true then Nat.beq dc 0 && Nat.beq ds 0 && X.2.2.1.isEmpty
    else match tab pc with
      | some q => Nat.ble dc 1000 && Nat.ble ds 100000 && (match tm_sps q.1 [X] with
        | some Xs => Xs.all (fun X => q.2.any (fun r => match tp_rxs r.1 [X] with
          | some Ys => Ys.all (fun Y => r.2.any (fun a => tm_alt (tm_do tab b ex f) a dc ds pc Y))
          | none => false))
        | none => false)
      | none => (match tm_one pc X with
        | some ns => ns.all (fun n => tm_do tab b ex f dc ds n.1 n.2)
        | none => false)
end IA
section IB
variable {p : Program} {l : Launch} {e : Env} {R : Room} {s : State} {m : MethodId} {args : Array Value} {below : List Frame} {meth : Method} {c : Code} {Q : State → Prop}
variable {D : va_G} {A : Nat → Prop} {H0 : Heap} {B0 : tk_B} {Ln : Nat} {xs : Nat → Int32} {nh : Nat} {ρh : Nat → Int}
variable {cs ss : Nat}
theorem tm_pl1.ok {f : tm_K} {k : tk_K} {ts : List (tk_V × tk_V)} {dc ds pc : Nat} {X : tm_X} (hC : tm_C p R s m args c A H0 B0 Ln xs) (hr : cs + dc ≤ (tk_Tmi tt_T 0).2.2.1 ∧ ss + ds ≤ (tk_Tmi tt_T 0).2.2.2.1) (hk : tx_Con l D A k) (h : tm_pl1 f k ts dc ds pc X = true) (hf : ∀ dc ds pc X, f dc ds pc X = true → tm_J p l e R s m args below meth c Q D A H0 B0 Ln xs nh ρh (cs + dc) (ss + ds) pc X) : tm_J p l e R s m args below meth c Q D A H0 B0 Ln xs nh ρh (cs + dc) (ss + ds) pc X := by
  unfold tm_pl1 at h
  split at h
  · rename_i ns hns
    exact tm_J.try hC hr (fun q hq => by
      rw [List.mem_singleton] at hq
      subst hq
      exact hk) hns (fun q hq => hf _ _ _ _ (List.all_eq_true.mp h q hq))
  · cases h
theorem tm_alt.ok {f : tm_K} {a : tm_L} {dc ds pc : Nat} {X : tm_X} (hC : tm_C p R s m args c A H0 B0 Ln xs) (hr : cs ≤ 100000 ∧ ss ≤ 8000000) (hd : dc ≤ 1000 ∧ ds ≤ 100000) (h : tm_alt f a dc ds pc X = true) (hf : ∀ dc ds pc X, f dc ds pc X = true → tm_J p l e R s m args below meth c Q D A H0 B0 Ln xs nh ρh (cs + dc) (ss + ds) pc X) : tm_J p l e R s m args below meth c Q D A H0 B0 Ln xs nh ρh (cs + dc) (ss + ds) pc X := by
  have m1 : (tk_Tmi tt_T 0).2.2.1 = 137232 := rfl
  have m2 : (tk_Tmi tt_T 0).2.2.2.1 = 8690554 := rfl
  have hr2 : cs + dc ≤ (tk_Tmi tt_T 0).2.2.1 ∧ ss + ds ≤ (tk_Tmi tt_T 0).2.2.2.1 := by omega
  unfold tm_alt at h
  split at h
  · split at h
    · rename_i k hk
      exact tm_pl1.ok hC hr2 (ty_Ks _ k hk) h hf
    · cases h
  · split at h
    · rename_i k hk
      exact tm_J.jc hC hr2 (tm_kj.ok hk) h (fun X' hX' => hf _ _ _ _ hX')
    · cases h
  · split at h
    · rename_i k k2 hk hk2
      exact tm_J.lc hC hr2 (ty_Ks _ k hk) (ty_Ks _ k2 hk2) h (fun X' hX' => hf _ _ _ _ hX')
    · cases h
  · split at h
    · rename_i k hk
      exact tm_J.rc tm_T2 hC hr (tm_k2.ok hk) h (fun dc' ds' X' hX' => hf _ _ _ _ hX')
    · cases h
  · split at h
    · rename_i k hk
      exact tm_J.ac hC hr (tm_ka.ok hk) h (fun dc' ds' X' hX' => hf _ _ _ _ hX')
    · cases h
  · split at h
    · rename_i k hk
      exact tm_J.rc tm_T0 hC hr (tm_kc.ok hk) h (fun dc' ds' X' hX' => hf _ _ _ _ hX')
    · cases h
  · split at h
    · rename_i k hk
      exact tm_pl1.ok hC hr2 (tm_kp.ok hk) h hf
    · cases h
theorem tm_J.rx {pc : Nat} {X : tm_X} {it : List (List (Nat × Int × Int))} (hR : tp_R ρh) (hn : tp_n ≤ nh) (hit : it ∈ tp_rels) (k : ∀ b ∈ it, tm_J p l e R s m args below meth c Q D A H0 B0 Ln xs nh ρh cs ss pc (tp_rx b X.1, X.2)) : tm_J p l e R s m args below meth c Q D A H0 B0 Ln xs nh ρh cs ss pc X := by
  intro ρ B ws tys H locs ls lv st hG
  obtain ⟨hk, hg, h10, hsc, hv⟩ := hG
  obtain ⟨E, L, K, M, C⟩ := X
  obtain ⟨hE, h0, hL, hl, hst, hMm, hrest⟩ := id hk
  have e2 : tk_env ρ E := hE
  have st2 : tk_stk ρ B E.length K st := hst
  have z2 : 0 < E.length ∧ ρ 0 = 0 := h0
  have m2 : tk_mem ρ B E.length ws M := hMm
  have l2 : tk_loc ρ B E.length L lv := hL
  have g2 : tk_ag nh ρh E.length ρ := hg
  have s2 : tm_sc ρ E.length xs C := hsc
  obtain ⟨b, hb, hi⟩ := hR it hit
  have hi' : tp_ib ρ b := fun q hq => by
    rw [g2.2 q.1 (Nat.lt_of_lt_of_le (tp_rl it hit b hb q hq).2 hn)]
    exact hi q hq
  obtain ⟨r1, r2⟩ := tp_rx.ok e2 hi'
  refine k b hb ρ B ws tys H locs ls lv st ⟨⟨r1, ⟨by show 0 < (tp_rx b E).length; rw [r2]; exact z2.1, z2.2⟩, ?_, hl, ?_, ?_, hrest⟩, ?_, h10, ?_, hv⟩
  · show tk_loc ρ B (tp_rx b E).length L lv
    rw [r2]; exact l2
  · show tk_stk ρ B (tp_rx b E).length K st
    rw [r2]; exact st2
  · show tk_mem ρ B (tp_rx b E).length ws M
    rw [r2]; exact m2
  · show tk_ag nh ρh (tp_rx b E).length ρ
    rw [r2]; exact g2
  · show tm_sc ρ (tp_rx b E).length xs C
    rw [r2]; exact s2
theorem tm_J.rxs {pc : Nat} (hR : tp_R ρh) (hn : tp_n ≤ nh) : ∀ {ks : List Nat} {Xs Ys : List tm_X}, tp_rxs ks Xs = some Ys → (∀ Y ∈ Ys, tm_J p l e R s m args below meth c Q D A H0 B0 Ln xs nh ρh cs ss pc Y) → ∀ X ∈ Xs, tm_J p l e R s m args below meth c Q D A H0 B0 Ln xs nh ρh cs ss pc X
  | [], Xs, Ys, h, k => by
    unfold tp_rxs at h
    cases h
    exact k
  | q :: ks, Xs, Ys, h, k => by
    unfold tp_rxs at h
    split at h
    · rename_i it hit
      intro X hX
      exact tm_J.rx hR hn (List.mem_of_getElem? hit) (fun b hb => tm_J.rxs hR hn h k _ (List.mem_flatMap.mpr ⟨X, hX, List.mem_map.mpr ⟨b, hb, rfl⟩⟩))
    · cases h
theorem tm_do.ok {tab : Nat → Option tp_W} {b : Bool} {ex : Nat} (hC : tm_C p R s m args c A H0 B0 Ln xs) (hr : cs ≤ 100000 ∧ ss ≤ 8000000) (hR : tp_R ρh) (hn : tp_n ≤ nh) (hfin : ∀ (dc ds : Nat) (X : tm_X), tp_fin b dc ds X = true → tm_J p l e R s m args below meth c Q D A H0 B0 Ln xs nh ρh (cs + dc) (ss + ds) 18 X) (hex : ∀ X : tm_X, X.2.2.1 = [] → tm_J p l e R s m args below meth c Q D A H0 B0 Ln xs nh ρh cs ss ex X) : ∀ (f dc ds pc : Nat) (X : tm_X), tm_do tab b ex f dc ds pc X = true → tm_J p l e R s m args below meth c Q D A H0 B0 Ln xs nh ρh (cs + dc) (ss + ds) pc X
  | 0, dc, ds, pc, X, h => by
    unfold tm_do at h
    cases h
  | f + 1, dc, ds, pc, X, h => by
    have IH := tm_do.ok (tab := tab) (b := b) (ex := ex) hC hr hR hn hfin hex f
    unfold tm_do at h
    split at h
    · rename_i h18
      have h18 := Nat.eq_of_beq_eq_true h18
      subst h18
      exact hfin dc ds X h
    split at h
    · rename_i hx
      have hx := Nat.eq_of_beq_eq_true hx
      subst hx
      rw [Bool.and_eq_true, Bool.and_eq_true] at h
      have e1 := Nat.eq_of_beq_eq_true h.1.1
      have e2 := Nat.eq_of_beq_eq_true h.1.2
      subst e1 e2
      exact hex X (List.isEmpty_iff.mp h.2)
    split at h
    · rename_i q hq
      rw [Bool.and_eq_true, Bool.and_eq_true] at h
      obtain ⟨⟨h1, h2⟩, h3⟩ := h
      split at h3
      · rename_i Xs hXs
        refine tm_J.splits hXs (fun Y hY => ?_) X List.mem_cons_self
        obtain ⟨r, -, hr3⟩ := List.any_eq_true.mp (List.all_eq_true.mp h3 Y hY)
        split at hr3
        · rename_i Zs hZs
          refine tm_J.rxs hR hn hZs (fun Z hZ => ?_) Y List.mem_cons_self
          obtain ⟨a, -, ha⟩ := List.any_eq_true.mp (List.all_eq_true.mp hr3 Z hZ)
          exact tm_alt.ok hC hr ⟨Nat.le_of_ble_eq_true h1, Nat.le_of_ble_eq_true h2⟩ ha IH
        · cases hr3
      · cases h3
    · split at h
      · rename_i ns hns
        exact tm_J.one hC hns (fun q hq => IH dc ds q.1 q.2 (List.all_eq_true.mp h q hq))
      · cases h
end IB
