/-! ===== a round of the law, by one check ===== -/
section IA
variable {l : Launch} {D : va_G} {A : Nat → Prop}
/-- a contract by hand, as one of the tables -/
theorem tn_Con.tk {k : tk_K} {Z : (Nat → Int) → tk_B → va_W → (Nat → Int) → tk_A → tk_B → va_W → Heap → Heap → Prop} (h : ty_NCon l D A k (fun _ _ _ => True) Z) : tx_Con l D A k := by
  intro ρ B ws tys H vs hE h0 has hMm hPw hD hC hA hcap
  refine Jvm.Free.MetFree.mono (h ρ B ws tys H vs hE h0 has hMm hPw hD hC hA hcap trivial) (fun _ _ q => q) (fun _ _ _ _ _ q => q) (fun a st o t _ q => ⟨?_, q.2⟩)
  obtain ⟨⟨w, hw, ρ', B', ws', tys', v, q0, q1, q2, q3, q4, q5, q6, q7, q8, q9, q10, q11, q12, q13, q14⟩, -⟩ := q
  exact ⟨tk_pS tt_T k w, List.mem_map.mpr ⟨w, hw, rfl⟩, ρ', B', ws', tys', v, q0, q1, q2, q3, q4, q5, q6, q7, q8, q9, q10, q11, q12, q13⟩
/-- plain contracts beside the tables' -/
def tm_kp (id : Nat) : Option tk_K := match id with
  | 0 => some tvt_k | 1 => some tvb_k | 2 => some tnp_k | 3 => some tnl_k
  | 4 => some tvXa_k
  | 5 => some tvXb_k
  | 6 => some tvXc_k
  | 7 => some tvXd_k
  | 8 => some tvXe_k
  | 9 => some tvXf_k
  | 10 => some tvYa_k
  | 11 => some tvYb_k
  | 12 => some tvYc_k
  | 13 => some tvYd_k
  | 14 => some tvYe_k
  | 15 => some tvYf_k
  | 16 => some tvR0_k
  | 17 => some tvR1_k
  | 18 => some tvR2_k
  | 19 => some tvR3_k
  | 20 => some tvQ0_k
  | 21 => some tvQ1_k
  | 22 => some tvQ2_k
  | 23 => some tvQ3_k
  | 24 => some tvCa_k
  | 25 => some tvCb_k
  | 26 => some tvCc_k
  | 27 => some tvCd_k
  | 28 => some tvCe_k
  | 29 => some tvCf_k
  | 30 => some tvCg_k
  | 31 => some tvCh_k
  | 32 => some tvCi_k
  | 33 => some tvCj_k
  | 34 => some tvCk_k
  | 35 => some tvCm_k
  | 36 => some tvCo_k
  | 37 => some tvCq_k
  | 38 => some tvDa_k
  | 39 => some tvDb_k
  | 40 => some tvDc_k
  | 41 => some tvDd_k
  | 42 => some tvDe_k
  | 43 => some tvDf_k
  | 44 => some tvDg_k
  | 45 => some tvDh_k
  | 46 => some tvDi_k
  | 47 => some tvDj_k
  | 48 => some tvDk_k
  | 49 => some tvDm_k
  | 50 => some tvDo_k
  | 51 => some tvDq_k
  | _ => none
theorem tm_kp.ok {id : Nat} {k : tk_K} (h : tm_kp id = some k) : tx_Con l D A k := by
  unfold tm_kp at h
  split at h
  · cases h; exact tvt_c
  · cases h; exact tvb_c
  · cases h; exact tnp_con.tk
  · cases h; exact tnl_con.tk
  · cases h; exact tvXa_c
  · cases h; exact tvXb_c
  · cases h; exact tvXc_c
  · cases h; exact tvXd_c
  · cases h; exact tvXe_c
  · cases h; exact tvXf_c
  · cases h; exact tvYa_c
  · cases h; exact tvYb_c
  · cases h; exact tvYc_c
  · cases h; exact tvYd_c
  · cases h; exact tvYe_c
  · cases h; exact tvYf_c
  · cases h; exact tvR0_c
  · cases h; exact tvR1_c
  · cases h; exact tvR2_c
  · cases h; exact tvR3_c
  · cases h; exact tvQ0_c
  · cases h; exact tvQ1_c
  · cases h; exact tvQ2_c
  · cases h; exact tvQ3_c
  · cases h; exact tvCa_c
  · cases h; exact tvCb_c
  · cases h; exact tvCc_c
  · cases h; exact tvCd_c
  · cases h; exact tvCe_c
  · cases h; exact tvCf_c
  · cases h; exact tvCg_c
  · cases h; exact tvCh_c
  · cases h; exact tvCi_c
  · cases h; exact tvCj_c
  · cases h; exact tvCk_c
  · cases h; exact tvCm_c
  · cases h; exact tvCo_c
  · cases h; exact tvCq_c
  · cases h; exact tvDa_c
  · cases h; exact tvDb_c
  · cases h; exact tvDc_c
  · cases h; exact tvDd_c
  · cases h; exact tvDe_c
  · cases h; exact tvDf_c
  · cases h; exact tvDg_c
  · cases h; exact tvDh_c
  · cases h; exact tvDi_c
  · cases h; exact tvDj_c
  · cases h; exact tvDk_c
  · cases h; exact tvDm_c
  · cases h; exact tvDo_c
  · cases h; exact tvDq_c
  · cases h
/-- .. with words on READINGS -/
def tm_kj (id : Nat) : Option (tk_K × tl_Y) := match id with
  | 0 => some (tvu_k, (3, 5, 6)) | 1 => some (tvm_k, (8, 10, 11)) | 2 => some (tvr_k, (6, 7, 8)) | 3 => some (tve_k, (5, 6, 7)) | 4 => some (tvk_k, (13, 14, 15)) | 5 => some (tvB_k, (13, 14, 15)) | 6 => some (tng_k, (4, 6, 7))
  | _ => none
theorem tm_kj.ok {id : Nat} {k : tk_K × tl_Y} (h : tm_kj id = some k) : ty_Con l D A k.1 (tl_JP k.2) (tl_JZ k.2) := by
  unfold tm_kj at h
  split at h
  · cases h; exact tvu_c
  · cases h; exact tvm_c
  · cases h; exact tvr_c
  · cases h; exact tve_c
  · cases h; exact tvk_c
  · cases h; exact tvB_c
  · cases h; exact tng_con.tl (fun _ _ _ _ _ _ _ _ _ q => q)
  · cases h
/-- .. over the second tables -/
def tm_k2 (id : Nat) : Option tk_K := match id with
  | 0 => some tu_k438 | 1 => some tu_k440 | 2 => some tu_k443 | 3 => some tu_k444
  | _ => none
theorem tm_k2.ok {id : Nat} {k : tk_K} (h : tm_k2 id = some k) : tm_Con2 l D A k := by
  unfold tm_k2 at h
  split at h
  · cases h; exact tm_c438
  · cases h; exact tm_c440
  · cases h; exact tm_c443
  · cases h; exact tm_c444
  · cases h
/-- .. with rooms by end -/
def tm_ka (id : Nat) : Option tk_K := match id with
  | 0 => some tvw_k | 1 => some tvs_k | 2 => some tvq_k | 3 => some tvp_k
  | _ => none
theorem tm_ka.ok {id : Nat} {k : tk_K} (h : tm_ka id = some k) : ty_Con l D A k (fun _ _ _ => True) ty_RZ := by
  unfold tm_ka at h
  split at h
  · cases h; exact tvw_c
  · cases h; exact tvs_c
  · cases h; exact tvq_c
  · cases h; exact tvp_c
  · cases h
/-- .. that take rooms -/
def tm_kc (id : Nat) : Option tk_K := match id with
  | 0 => some tu_k445 | 1 => some tu_k446
  | _ => tu_K 437 id
theorem tm_kc.ok {id : Nat} {k : tk_K} (h : tm_kc id = some k) : tx_Con l D A k := by
  unfold tm_kc at h
  split at h
  · cases h; exact tm_c445
  · cases h; exact tm_c446
  · exact ty_Ks id k h
/-- which way a call is taken, by which contract; what is touched -/
abbrev tm_L : Type := Nat × Nat × List (tk_V × tk_V)
def tm_pl1 (f : tm_K) (k : tk_K) (ts : List (tk_V × tk_V)) (dc ds pc : Nat) (X : tm_X) : Bool := match tm_try pc X [(k, ts)] with
  | some ns => ns.all (fun q => f dc ds q.1 q.2)
  | none => false
def tm_alt (f : tm_K) (a : tm_L) (dc ds pc : Nat) (X : tm_X) : Bool := match a.1 with
  | 0 => (match tu_K 437 a.2.1 with
    | some k => tm_pl1 f k a.2.2 dc ds pc X
    | none => false)
  | 1 => (match tm_kj a.2.1 with
    | some k => tm_jc k.1 k.2 a.2.2 (fun pc' X' => f dc ds pc' X') pc X
    | none => false)
  | 2 => (match tu_K 437 a.2.1, tu_K 437 (a.2.2.length + 411) with
    | some k, some k2 => tm_lc k k2 (fun pc' X' => f dc ds pc' X') pc X
    | _, _ => false)
  | 3 => (match tm_k2 a.2.1 with
    | some k => tm_rc tt_T2 k f dc ds pc X
    | none => false)
  | 4 => (match tm_ka a.2.1 with
    | some k => tm_ac k f dc ds pc X
    | none => false)
  | 5 => (match tm_kc a.2.1 with
    | some k => tm_rc tt_T k f dc ds pc X
    | none => false)
  | _ => (match tm_kp a.2.1 with
    | some k => tm_pl1 f k a.2.2 dc ds pc X
    | none => false)
abbrev tp_W : Type := List (Nat × List (Int × Int)) × List (List (Nat × Int) × List (List tm_L × Nat))
/-- a call by levels: one of these ways, else the states are split -/
def tp_lv (f : tm_K) (dc ds pc : Nat) : List (List tm_L × Nat) → tm_X → Bool
  | [], _ => false
  | q :: ls, X => q.1.any (fun a => tm_alt f a dc ds pc X) || (match tp_rxs [q.2] [X] with
    | some Ys => Ys.all (fun Y => tp_lv f dc ds pc ls Y)
    | none => false)
def tm_do (tab : Nat → Option tp_W) (b : Bool) (ex : Nat) : Nat → tm_K
  | 0 => fun _ _ _ _ => false
  | f + 1 => fun dc ds pc X =>
    if Nat.beq pc 18 = true then tp_fin b dc ds X
    else if Nat.beq pc ex = true then Nat.beq dc 0 && Nat.beq ds 0 && X.2.2.1.isEmpty
    else match tab pc with
      | some q => Nat.ble dc 1000 && Nat.ble ds 100000 && (match tm_sps q.1 [X] with
        | some Xs => Xs.all (fun X => q.2.any (fun r => tp_grd r.1 X && tp_lv (tm_do tab b ex f) dc ds pc r.2 X))
        | none => false)
      | none => (match tm_one pc X with
        | some ns => ns.all (fun n => tm_do tab b ex f dc ds n.1 n.2)
        | none => false)
end IA
section IB
variable {p : Program} {l : Launch} {e : Env} {R : Room} {s : State} {m : MethodId} {args : Array Value} {below : List Frame} {meth : Method} {c : Code} {Q : State → Prop}
variable {D : va_G} {A : Nat → Prop} {H0 : Heap} {B0 : tk_B} {Ln : Nat} {xs : Nat → Int32} {nh : Nat} {ρh : Nat → Int}
variable {cs ss : Nat}
theorem tm_pl1.ok {f : tm_K} {k : tk_K} {ts : List (tk_V × tk_V)} {dc ds pc : Nat} {X : tm_X} (hC : tm_C p R s m args c A H0 B0 Ln xs) (hr : cs + dc ≤ (tk_Tmi tt_T 0).2.2.1 ∧ ss + ds ≤ (tk_Tmi tt_T 0).2.2.2.1) (hk : tx_Con l D A k) (h : tm_pl1 f k ts dc ds pc X = true) (hf : ∀ dc ds pc X, f dc ds pc X = true → tm_J p l e R s m args below meth c Q D A H0 B0 Ln xs nh ρh (cs + dc) (ss + ds) pc X) : tm_J p l e R s m args below meth c Q D A H0 B0 Ln xs nh ρh (cs + dc) (ss + ds) pc X := by
  unfold tm_pl1 at h
  split at h
  · rename_i ns hns
    exact tm_J.try hC hr (fun q hq => by
      rw [List.mem_singleton] at hq
      subst hq
      exact hk) hns (fun q hq => hf _ _ _ _ (List.all_eq_true.mp h q hq))
  · cases h
theorem tm_alt.ok {f : tm_K} {a : tm_L} {dc ds pc : Nat} {X : tm_X} (hC : tm_C p R s m args c A H0 B0 Ln xs) (hr : cs ≤ 100000 ∧ ss ≤ 8000000) (hd : dc ≤ 1000 ∧ ds ≤ 100000) (h : tm_alt f a dc ds pc X = true) (hf : ∀ dc ds pc X, f dc ds pc X = true → tm_J p l e R s m args below meth c Q D A H0 B0 Ln xs nh ρh (cs + dc) (ss + ds) pc X) : tm_J p l e R s m args below meth c Q D A H0 B0 Ln xs nh ρh (cs + dc) (ss + ds) pc X := by
  have m1 : (tk_Tmi tt_T 0).2.2.1 = 137232 := rfl
  have m2 : (tk_Tmi tt_T 0).2.2.2.1 = 8690554 := rfl
  have hr2 : cs + dc ≤ (tk_Tmi tt_T 0).2.2.1 ∧ ss + ds ≤ (tk_Tmi tt_T 0).2.2.2.1 := by omega
  unfold tm_alt at h
  split at h
  · split at h
    · rename_i k hk
      exact tm_pl1.ok hC hr2 (ty_Ks _ k hk) h hf
    · cases h
  · split at h
    · rename_i k hk
      exact tm_J.jc hC hr2 (tm_kj.ok hk) h (fun X' hX' => hf _ _ _ _ hX')
    · cases h
  · split at h
    · rename_i k k2 hk hk2
      exact tm_J.lc hC hr2 (ty_Ks _ k hk) (ty_Ks _ k2 hk2) h (fun X' hX' => hf _ _ _ _ hX')
    · cases h
  · split at h
    · rename_i k hk
      exact tm_J.rc tm_T2 hC hr (tm_k2.ok hk) h (fun dc' ds' X' hX' => hf _ _ _ _ hX')
    · cases h
  · split at h
    · rename_i k hk
      exact tm_J.ac hC hr (tm_ka.ok hk) h (fun dc' ds' X' hX' => hf _ _ _ _ hX')
    · cases h
  · split at h
    · rename_i k hk
      exact tm_J.rc tm_T0 hC hr (tm_kc.ok hk) h (fun dc' ds' X' hX' => hf _ _ _ _ hX')
    · cases h
  · split at h
    · rename_i k hk
      exact tm_pl1.ok hC hr2 (tm_kp.ok hk) h hf
    · cases h
theorem tm_J.rx {pc : Nat} {X : tm_X} {it : List (List (Nat × Int × Int))} (hR : tp_R ρh) (hn : tp_n ≤ nh) (hit : it ∈ tp_rels) (k : ∀ b ∈ it, tm_J p l e R s m args below meth c Q D A H0 B0 Ln xs nh ρh cs ss pc (tp_rx b X.1, X.2)) : tm_J p l e R s m args below meth c Q D A H0 B0 Ln xs nh ρh cs ss pc X := by
  intro ρ B ws tys H locs ls lv st hG
  obtain ⟨hk, hg, h10, hsc, hv⟩ := hG
  obtain ⟨E, L, K, M, C⟩ := X
  obtain ⟨hE, h0, hL, hl, hst, hMm, hrest⟩ := id hk
  have e2 : tk_env ρ E := hE
  have st2 : tk_stk ρ B E.length K st := hst
  have z2 : 0 < E.length ∧ ρ 0 = 0 := h0
  have m2 : tk_mem ρ B E.length ws M := hMm
  have l2 : tk_loc ρ B E.length L lv := hL
  have g2 : tk_ag nh ρh E.length ρ := hg
  have s2 : tm_sc ρ E.length xs C := hsc
  obtain ⟨b, hb, hi⟩ := hR it hit
  have hi' : tp_ib ρ b := fun q hq => by
    rw [g2.2 q.1 (Nat.lt_of_lt_of_le (tp_rl it hit b hb q hq).2 hn)]
    exact hi q hq
  obtain ⟨r1, r2⟩ := tp_rx.ok e2 hi'
  refine k b hb ρ B ws tys H locs ls lv st ⟨⟨r1, ⟨by show 0 < (tp_rx b E).length; rw [r2]; exact z2.1, z2.2⟩, ?_, hl, ?_, ?_, hrest⟩, ?_, h10, ?_, hv⟩
  · show tk_loc ρ B (tp_rx b E).length L lv
    rw [r2]; exact l2
  · show tk_stk ρ B (tp_rx b E).length K st
    rw [r2]; exact st2
  · show tk_mem ρ B (tp_rx b E).length ws M
    rw [r2]; exact m2
  · show tk_ag nh ρh (tp_rx b E).length ρ
    rw [r2]; exact g2
  · show tm_sc ρ (tp_rx b E).length xs C
    rw [r2]; exact s2
theorem tm_J.ext {X : tm_X} {en : tk_N} {E' : tk_E} {ρ : Nat → Int} {z : Int} {B : tk_B} {ws : va_W} {tys : List (ClassId × FieldType)} {H : Heap} {locs : List Loc} {ls : Array Slot} {lv : List (Nat × Value)} {st : List Value} (hG : tm_G D A s H0 B0 Ln xs nh ρh X cs ss ρ B ws tys H locs ls lv st) (hl : E'.length = X.1.length) (hE' : tk_env ρ E') (hz : tk_dv ρ X.1.length en z) : tm_G D A s H0 B0 Ln xs nh ρh (E' ++ [en], X.2) cs ss (va_up ρ X.1.length z) B ws tys H locs ls lv st := by
  obtain ⟨hk, hg, h10, hsc, hv⟩ := hG
  obtain ⟨E, L, K, M, C⟩ := X
  obtain ⟨hE, h0, hL, hlv, hst, hMm, hrest⟩ := id hk
  have st2 : tk_stk ρ B E.length K st := hst
  have z2 : 0 < E.length ∧ ρ 0 = 0 := h0
  have m2 : tk_mem ρ B E.length ws M := hMm
  have l2 : tk_loc ρ B E.length L lv := hL
  have g2 : tk_ag nh ρh E.length ρ := hg
  have s2 : tm_sc ρ E.length xs C := hsc
  have hl : E'.length = E.length := hl
  have hz : tk_dv ρ E'.length en z := by rw [hl]; exact hz
  have hn : (E' ++ [en]).length = E.length + 1 := by rw [List.length_append, hl]; rfl
  have ha : ∀ k, k < E.length → va_up ρ E.length z k = ρ k := fun k hk => va_up_ne _ _ (Nat.ne_of_lt hk)
  have hag : tk_ag E.length ρ (E' ++ [en]).length (va_up ρ E.length z) := ⟨by rw [hn]; exact Nat.le_succ _, ha⟩
  have hle : E.length ≤ (E' ++ [en]).length := by rw [hn]; exact Nat.le_succ _
  refine ⟨⟨?_, ⟨by show 0 < (E' ++ [en]).length; omega, by show va_up ρ E.length z 0 = 0; rw [ha 0 z2.1]; exact z2.2⟩, l2.ext ha (tk_le.rf B) hle, hlv, tk_stk.ext ha (tk_le.rf B) hle st2, m2.ext ha hle, hrest⟩, g2.tr hag, h10, s2.ext hag, hv⟩
  have := tk_env.pushd hE' hz
  rw [hl] at this
  exact this
theorem tm_J.dif {pc : Nat} {d : Nat × Nat × Nat} {X : tm_X} {Ys : List tm_X} (hn : tp_n ≤ nh) (h : tp_dif d X = some Ys) (k : ∀ Y ∈ Ys, tm_J p l e R s m args below meth c Q D A H0 B0 Ln xs nh ρh cs ss pc Y) : tm_J p l e R s m args below meth c Q D A H0 B0 Ln xs nh ρh cs ss pc X := by
  intro ρ B ws tys H locs ls lv st hG
  unfold tp_dif at h
  split at h
  · rename_i v w hv hw
    split at h
    · rename_i hc
      cases h
      simp only [Bool.and_eq_true] at hc
      have c3 := Nat.le_of_ble_eq_true hc.2
      have hE : tk_env ρ X.1 := hG.1.1
      have hst : tk_stk ρ B X.1.length X.2.2.1 st := hG.1.2.2.2.2.1
      obtain ⟨l1, -⟩ := hst.mem (List.mem_of_getElem? hv)
      obtain ⟨l2, -⟩ := hst.mem (List.mem_of_getElem? hw)
      have l3 : d.2.2 < X.1.length := by
        have := hG.2.1.1
        omega
      generalize hI : v.2.1 = I at *
      generalize hN : w.2.1 = N at *
      generalize hL : d.2.2 = L at *
      have b1 := hE.at (I, 0)
      have b2 := hE.at (N, 0)
      have b3 := hE.at (L, 0)
      dsimp only at b1 b2 b3
      -- three numbers more: what is over, the sum, what is over again
      have key3 : ∀ (E2 : tk_E) (lo hi : Int) (ρ1 : Nat → Int) (j : Nat), tm_G D A s H0 B0 Ln xs nh ρh (E2, X.2) cs ss ρ1 B ws tys H locs ls lv st → X.1.length ≤ E2.length → j < E2.length → (∀ q, q < X.1.length → ρ1 q = ρ q) → ρ1 j = ρ L - ρ N → lo ≤ ρ I + ρ N - ρ L → ρ I + ρ N - ρ L ≤ hi → tm_J p l e R s m args below meth c Q D A H0 B0 Ln xs nh ρh cs ss pc (E2 ++ tp_e3 X.1 I N L E2.length j lo hi, X.2) → W p l e R s m args below meth c H locs cs ss Q (F0 m pc ls st) := by
        intro E2 lo hi ρ1 j G1 hle hj r1 s1 g1 g2 kk
        have G2 := tm_J.ext (en := (lo, hi, 2, I, j, 0)) (z := ρ I + ρ N - ρ L) (E' := E2) G1 rfl G1.1.1 ⟨g1, g2, fun _ => by dsimp only; omega, fun q => absurd (show (2 : Nat) = 1 from q) (by decide), fun _ => by dsimp only; rw [r1 I l1, s1]; omega⟩
        dsimp only at G2
        have r2 : ∀ q, q < E2.length → va_up ρ1 E2.length (ρ I + ρ N - ρ L) q = ρ1 q := fun q hq => va_up_ne _ _ (Nat.ne_of_lt hq)
        generalize va_up ρ1 E2.length (ρ I + ρ N - ρ L) = ρ2 at G2 r2
        have n2 : (E2 ++ [(lo, hi, 2, I, j, (0 : Int))]).length = E2.length + 1 := by rw [List.length_append]; rfl
        have G3 := tm_J.ext (en := (tk_lo X.1 (I, 0) + tk_lo X.1 (N, 0), tk_hi X.1 (I, 0) + tk_hi X.1 (N, 0), 1, I, N, 0)) (z := ρ I + ρ N) (E' := E2 ++ [(lo, hi, 2, I, j, 0)]) G2 rfl G2.1.1 ⟨by dsimp only; omega, by dsimp only; omega, fun _ => by dsimp only; rw [n2]; omega, fun _ => by dsimp only; rw [r2 I (by omega), r1 I l1, r2 N (by omega), r1 N l2]; omega, fun q => absurd (show (1 : Nat) = 2 from q) (by decide)⟩
        dsimp only at G3
        rw [n2] at G3
        have r3 : ∀ q, q < E2.length + 1 → va_up ρ2 (E2.length + 1) (ρ I + ρ N) q = ρ2 q := fun q hq => va_up_ne _ _ (Nat.ne_of_lt hq)
        have s3 : va_up ρ2 (E2.length + 1) (ρ I + ρ N) (E2.length + 1) = ρ I + ρ N := va_up_self _ _ _
        generalize va_up ρ2 (E2.length + 1) (ρ I + ρ N) = ρ3 at G3 r3 s3
        have n3 : ((E2 ++ [(lo, hi, 2, I, j, (0 : Int))]) ++ [(tk_lo X.1 (I, 0) + tk_lo X.1 (N, 0), tk_hi X.1 (I, 0) + tk_hi X.1 (N, 0), 1, I, N, 0)]).length = E2.length + 2 := by rw [List.length_append, n2]; rfl
        have G4 := tm_J.ext (en := (lo, hi, 2, E2.length + 1, L, 0)) (z := ρ I + ρ N - ρ L) (E' := (E2 ++ [(lo, hi, 2, I, j, 0)]) ++ [(tk_lo X.1 (I, 0) + tk_lo X.1 (N, 0), tk_hi X.1 (I, 0) + tk_hi X.1 (N, 0), 1, I, N, 0)]) G3 rfl G3.1.1 ⟨g1, g2, fun _ => by dsimp only; rw [n3]; omega, fun q => absurd (show (2 : Nat) = 1 from q) (by decide), fun _ => by dsimp only; rw [s3, r3 L (by omega), r2 L (by omega), r1 L l3]; omega⟩
        have e : E2 ++ tp_e3 X.1 I N L E2.length j lo hi = ((E2 ++ [(lo, hi, 2, I, j, 0)]) ++ [(tk_lo X.1 (I, 0) + tk_lo X.1 (N, 0), tk_hi X.1 (I, 0) + tk_hi X.1 (N, 0), 1, I, N, 0)]) ++ [(lo, hi, 2, E2.length + 1, L, 0)] := by
          unfold tp_e3
          simp
        rw [e] at kk
        exact kk _ B ws tys H locs ls lv st G4
      have key : ∀ (E1 : tk_E) (lo hi : Int), E1.length = X.1.length → tk_env ρ E1 → lo ≤ ρ I + ρ N - ρ L → ρ I + ρ N - ρ L ≤ hi → tm_J p l e R s m args below meth c Q D A H0 B0 Ln xs nh ρh cs ss pc (E1 ++ tp_es X.1 I N L X.1.length lo hi, X.2) → W p l e R s m args below meth c H locs cs ss Q (F0 m pc ls st) := by
        intro E1 lo hi hl hE1 g1 g2 kk
        have GE : tm_G D A s H0 B0 Ln xs nh ρh (E1, X.2) cs ss ρ B ws tys H locs ls lv st := by
          obtain ⟨hk, hg, h10, hsc, hvv⟩ := hG
          obtain ⟨E, L', K, M, C⟩ := X
          obtain ⟨hE', h0, hL', hlv, hst', hMm, hrest⟩ := id hk
          have hl : E1.length = E.length := hl
          have st2 : tk_stk ρ B E.length K st := hst'
          have z2 : 0 < E.length ∧ ρ 0 = 0 := h0
          have m2 : tk_mem ρ B E.length ws M := hMm
          have q2 : tk_loc ρ B E.length L' lv := hL'
          have g2' : tk_ag nh ρh E.length ρ := hg
          have s2 : tm_sc ρ E.length xs C := hsc
          rw [← hl] at st2 z2 m2 q2 g2' s2
          exact ⟨⟨hE1, z2, q2, hlv, st2, m2, hrest⟩, g2', h10, s2, hvv⟩
        unfold tp_es at kk
        split at kk
        · rename_i j hj
          obtain ⟨j1, j2⟩ := tp_fd.ok hE hj
          rw [← hl] at kk
          exact key3 E1 lo hi ρ j GE (Nat.le_of_eq hl.symm) (by omega) (fun _ _ => rfl) j2 g1 g2 kk
        · have G1 := tm_J.ext (en := (tk_lo X.1 (L, 0) - tk_hi X.1 (N, 0), tk_hi X.1 (L, 0) - tk_lo X.1 (N, 0), 2, L, N, 0)) (z := ρ L - ρ N) hG hl hE1 ⟨by dsimp only; omega, by dsimp only; omega, fun _ => ⟨l3, l2⟩, fun q => absurd (show (2 : Nat) = 1 from q) (by decide), fun _ => by dsimp only; omega⟩
          have n1 : (E1 ++ [(tk_lo X.1 (L, 0) - tk_hi X.1 (N, 0), tk_hi X.1 (L, 0) - tk_lo X.1 (N, 0), 2, L, N, (0 : Int))]).length = X.1.length + 1 := by rw [List.length_append, hl]; rfl
          refine key3 _ lo hi _ X.1.length G1 (by rw [n1]; omega) (by rw [n1]; omega) (fun q hq => va_up_ne _ _ (Nat.ne_of_lt hq)) (va_up_self _ _ _) g1 g2 ?_
          rw [n1, List.append_assoc]
          exact kk
      by_cases hlt : ρ L < ρ I + ρ N
      · exact key X.1 _ _ rfl hE (by omega) (by omega) (k _ List.mem_cons_self)
      · exact key (tk_rf (tk_rf X.1 I (tk_lo X.1 (I, 0)) (tk_hi X.1 (L, 0) - tk_lo X.1 (N, 0))) N (tk_lo X.1 (N, 0)) (tk_hi X.1 (L, 0) - tk_lo X.1 (I, 0))) _ _ (by rw [tk_rf.len, tk_rf.len]) (tk_rf.ok (tk_rf.ok hE (by omega) (by omega)) (by omega) (by omega)) (by omega) (by omega) (k _ (List.mem_cons_of_mem _ List.mem_cons_self))
    · cases h
  · cases h
theorem tm_J.rxs {pc : Nat} (hR : tp_R ρh) (hn : tp_n ≤ nh) : ∀ {ks : List Nat} {Xs Ys : List tm_X}, tp_rxs ks Xs = some Ys → (∀ Y ∈ Ys, tm_J p l e R s m args below meth c Q D A H0 B0 Ln xs nh ρh cs ss pc Y) → ∀ X ∈ Xs, tm_J p l e R s m args below meth c Q D A H0 B0 Ln xs nh ρh cs ss pc X
  | [], Xs, Ys, h, k => by
    unfold tp_rxs at h
    cases h
    exact k
  | q :: ks, Xs, Ys, h, k => by
    unfold tp_rxs at h
    split at h
    · rename_i it hit
      intro X hX
      exact tm_J.rx hR hn (List.mem_of_getElem? hit) (fun b hb => tm_J.rxs hR hn h k _ (List.mem_flatMap.mpr ⟨X, hX, List.mem_map.mpr ⟨b, hb, rfl⟩⟩))
    · split at h
      · rename_i d hd
        split at h
        · rename_i Zs hZ
          intro X hX
          obtain ⟨b, b1, b2⟩ := tm_mapM hZ X hX
          exact tm_J.dif hn b2 (fun Y hY => tm_J.rxs hR hn h k Y (List.mem_flatten.mpr ⟨b, b1, hY⟩))
        · cases h
      · split at h
        · rename_i Zs hZ
          intro X hX
          obtain ⟨b, b1, b2⟩ := tm_mapM hZ X hX
          exact tm_J.split b2 (fun Y hY => tm_J.rxs hR hn h k Y (List.mem_flatten.mpr ⟨b, b1, hY⟩))
        · cases h
theorem tp_lv.ok {f : tm_K} {dc ds pc : Nat} (hC : tm_C p R s m args c A H0 B0 Ln xs) (hr : cs ≤ 100000 ∧ ss ≤ 8000000) (hR : tp_R ρh) (hn : tp_n ≤ nh) (hd : dc ≤ 1000 ∧ ds ≤ 100000) (hf : ∀ dc ds pc X, f dc ds pc X = true → tm_J p l e R s m args below meth c Q D A H0 B0 Ln xs nh ρh (cs + dc) (ss + ds) pc X) : ∀ {ls : List (List tm_L × Nat)} {X : tm_X}, tp_lv f dc ds pc ls X = true → tm_J p l e R s m args below meth c Q D A H0 B0 Ln xs nh ρh (cs + dc) (ss + ds) pc X
  | [], X, h => by
    unfold tp_lv at h
    cases h
  | q :: ls, X, h => by
    unfold tp_lv at h
    rw [Bool.or_eq_true] at h
    rcases h with h | h
    · obtain ⟨a, -, ha⟩ := List.any_eq_true.mp h
      exact tm_alt.ok hC hr hd ha hf
    · split at h
      · rename_i Ys hYs
        exact tm_J.rxs hR hn hYs (fun Y hY => tp_lv.ok hC hr hR hn hd hf (List.all_eq_true.mp h Y hY)) X List.mem_cons_self
      · cases h
theorem tm_do.ok {tab : Nat → Option tp_W} {b : Bool} {ex : Nat} (hC : tm_C p R s m args c A H0 B0 Ln xs) (hr : cs ≤ 100000 ∧ ss ≤ 8000000) (hR : tp_R ρh) (hn : tp_n ≤ nh) (hfin : ∀ (dc ds : Nat) (X : tm_X), tp_fin b dc ds X = true → tm_J p l e R s m args below meth c Q D A H0 B0 Ln xs nh ρh (cs + dc) (ss + ds) 18 X) (hex : ∀ X : tm_X, X.2.2.1 = [] → tm_J p l e R s m args below meth c Q D A H0 B0 Ln xs nh ρh cs ss ex X) : ∀ (f dc ds pc : Nat) (X : tm_X), tm_do tab b ex f dc ds pc X = true → tm_J p l e R s m args below meth c Q D A H0 B0 Ln xs nh ρh (cs + dc) (ss + ds) pc X
  | 0, dc, ds, pc, X, h => by
    unfold tm_do at h
    cases h
  | f + 1, dc, ds, pc, X, h => by
    have IH := tm_do.ok (tab := tab) (b := b) (ex := ex) hC hr hR hn hfin hex f
    unfold tm_do at h
    split at h
    · rename_i h18
      have h18 := Nat.eq_of_beq_eq_true h18
      subst h18
      exact hfin dc ds X h
    split at h
    · rename_i hx
      have hx := Nat.eq_of_beq_eq_true hx
      subst hx
      rw [Bool.and_eq_true, Bool.and_eq_true] at h
      have e1 := Nat.eq_of_beq_eq_true h.1.1
      have e2 := Nat.eq_of_beq_eq_true h.1.2
      subst e1 e2
      exact hex X (List.isEmpty_iff.mp h.2)
    split at h
    · rename_i q hq
      rw [Bool.and_eq_true, Bool.and_eq_true] at h
      obtain ⟨⟨h1, h2⟩, h3⟩ := h
      split at h3
      · rename_i Xs hXs
        refine tm_J.splits hXs (fun Y hY => ?_) X List.mem_cons_self
        obtain ⟨r, -, hr3⟩ := List.any_eq_true.mp (List.all_eq_true.mp h3 Y hY)
        rw [Bool.and_eq_true] at hr3
        exact tp_lv.ok hC hr hR hn ⟨Nat.le_of_ble_eq_true h1, Nat.le_of_ble_eq_true h2⟩ IH hr3.2
      · cases h3
    · split at h
      · rename_i ns hns
        exact tm_J.one hC hns (fun q hq => IH dc ds q.1 q.2 (List.all_eq_true.mp h q hq))
      · cases h
end IB
