/-- a class's own links to arrays of arrays of ints -/
def kc_ML (own : String) (s : State) (Ts : List Jvm.Cond) (mw : Nat → Bool) : Prop := ∀ ix : Nat, mw ix = true → Jvm.Cond.classLink own ix ("[" ++ (FieldType.array .int).toString) ∈ Ts ∧ va_AOA .int s
theorem kc_arrI {args : Array Value} {s : State} (h : (Cond.arrayClass .int).before args s = true) : ∃ cy : ClassId, s.vm.findClass (FieldType.array .int).toString = some cy ∧ ArrOfT s cy .int ∧ va_RA s cy .int := by
  obtain ⟨cy, k, comp, h1, h2, h3⟩ := Cond.arrayClass_spec h
  exact ⟨cy, h1, fun n z => ⟨fun k h => (by cases h), k, h2, comp, h3⟩, h1⟩
section KL
variable {p : Program} {l : Launch} {e : Env} {R : Room} {s : State} {m : MethodId} {args : Array Value} {below : List Frame} {meth : Method} {c : Code} {Q : State → Prop}
variable {cc : ByteArray} {nL : Nat} {D : va_G} {cl : List vw_C} {A : Nat → Prop} {H0 : Heap}
variable {nA : Nat} {ρ0 : Nat → Int} {nB : Nat} {β0 : Nat → Nat}
variable {E E' : kc_E} {L K K' : List kc_V} {Hs Hs' : List kc_G} {cs ss cs' ss' pc : Nat} {Ts : List Jvm.Cond} {own : String} {RC RS : Nat}
/-- the cells with an array of arrays -/
theorem kc_C.rows {ρ : Nat → Int} {β β' : Nat → Nat} {n q N1 N2 : Nat} {r : Nat → Nat} {tys tys' : List (ClassId × FieldType)} {Hs : List kc_G} {ws : va_W} {cA cy : ClassId} {tA ty : Nat} (h : kc_C ρ β n tys Hs ws) (ht : ∀ (k : Nat) (z : ClassId × FieldType), tys[k]? = some z → tys'[k]? = some z)
    (b0 : ∀ k, k ≤ Hs.length → β' k = β k) (b1 : β' (Hs.length + 1) = q) (b2 : ∀ j, j < N1 → β' (Hs.length + 2 + j) = r j) (t1 : tys'[tA]? = some (cA, .array .int)) (t2 : tys'[ty]? = some (cy, .int)) :
    kc_C ρ β' n tys' (Hs ++ [(3, 0, .array .int, N1, (3, 0, 0), (List.range N1).map (fun j => (3, ((Hs.length + 2 + j : Nat) : Int), ((Hs.length + 2 + j : Nat) : Int))), [])] ++ List.replicate N1 (1, 0, .int, N2, (1, 0, 0), [], []))
      (ws ++ [(q, .inl (cA, N1, .inr (.inr (.inr (.inr (fun i => if i < N1 then some (r i) else none))))))] ++ (List.range N1).map (fun j => (r j, .inl (cy, N2, .inl (fun _ => 0))))) := by
  have hlen : (Hs ++ [((3, 0, .array .int, N1, (3, 0, 0), (List.range N1).map (fun j => (3, ((Hs.length + 2 + j : Nat) : Int), ((Hs.length + 2 + j : Nat) : Int))), []) : kc_G)] ++ List.replicate N1 ((1, 0, .int, N2, (1, 0, 0), [], []) : kc_G)).length = Hs.length + 1 + N1 := by simp; omega
  refine ⟨by simp [h.1], fun k g hk => ?_⟩
  rw [hlen]
  by_cases h1 : k < Hs.length
  · rw [List.getElem?_append_left (by simp; omega), List.getElem?_append_left h1] at hk
    obtain ⟨e0, w1, w2⟩ := h.2 k g hk
    refine ⟨e0, ?_, w2.ext (fun _ _ => rfl) b0 (by omega) (Nat.le_refl _) ht⟩
    rw [List.getElem?_append_left (by simp [h.1]; omega), List.getElem?_append_left (by rw [h.1]; exact h1), b0 _ (by omega)]
    exact w1
  · by_cases h2 : k = Hs.length
    · subst h2
      rw [List.getElem?_append_left (by simp), List.getElem?_append_right (Nat.le_refl _), Nat.sub_self] at hk
      cases hk
      refine ⟨_, ?_, cA, tA, fun i => if i < N1 then some (r i) else none, rfl, t1, fun j hj => ?_⟩
      · rw [List.getElem?_append_left (by simp [h.1]), List.getElem?_append_right (by rw [h.1]; exact Nat.le_refl _), h.1, Nat.sub_self, b1]
        rfl
      · dsimp only at hj ⊢
        rw [List.getD_eq_getElem?_getD, List.getElem?_map, List.getElem?_range hj, if_pos hj]
        refine Or.inr ⟨Hs.length + 2 + j, by rw [b2 j hj]; rfl, by omega, by omega, Int.le_refl _, Int.le_refl _⟩
    · have hk2 : k - (Hs.length + 1) < N1 := by
        have h3 := (List.getElem?_eq_some_iff.mp hk).1
        rw [hlen] at h3
        omega
      rw [List.getElem?_append_right (by simp; omega)] at hk
      have h4 : (Hs ++ [((3, 0, .array .int, N1, (3, 0, 0), (List.range N1).map (fun j => (3, ((Hs.length + 2 + j : Nat) : Int), ((Hs.length + 2 + j : Nat) : Int))), []) : kc_G)]).length = Hs.length + 1 := by simp
      rw [h4, List.getElem?_replicate, if_pos hk2] at hk
      cases hk
      refine ⟨_, ?_, cy, ty, fun _ => 0, rfl, t2, fun j hj => ?_⟩
      · rw [List.getElem?_append_right (by simp [h.1]; omega)]
        have h5 : (ws ++ [((q, .inl (cA, N1, .inr (.inr (.inr (.inr (fun i => if i < N1 then some (r i) else none)))))) : Nat × va_E)]).length = Hs.length + 1 := by simp [h.1]
        rw [h5, List.getElem?_map, List.getElem?_range hk2]
        have h6 := b2 _ hk2
        rw [show Hs.length + 2 + (k - (Hs.length + 1)) = k + 1 by omega] at h6
        rw [h6]
        rfl
      · exact ⟨0, rfl, Int.le_refl _, Int.le_refl _⟩
set_option maxHeartbeats 4000000 in
theorem kc_mna.ok {mw : Nat → Bool} {ix : Nat} (h : kc_mna mw RC RS ix E K Hs cs ss = some (K', Hs', cs', ss')) (hx : p.tables.exec = Jvm.exec) (hb : c.code = cc) (hown : s.vm.findClass own = some m.cls) (hts : ∀ w ∈ Ts, w.before args s = true) (hML : kc_ML own s Ts mw) (hAC : Jvm.Cond.arrayClass .int ∈ Ts) (hRC : RC ≤ R.cells) (hRS : RS ≤ R.slots) (hA : ∀ q, H0.size ≤ q → A q) (hd : decode cc pc = .ok (.multianewarray ix 2, 4))
    (k : kc_J p l e R s m args below meth c Q D cl A H0 nL nA ρ0 nB β0 (pc + 4) (E, L, K', Hs', cs', ss')) : kc_J p l e R s m args below meth c Q D cl A H0 nL nA ρ0 nB β0 pc (E, L, K, Hs, cs, ss) := by
  intro ρ β ws tys H locs ls lv st hk hg
  show W p l e R s m args below meth c H locs cs ss Q (F0 m pc ls st)
  have hE : kc_env ρ E := hk.1
  have h0 : 0 < E.length ∧ ρ 0 = 0 := hk.2.1
  have hL : kc_loc ρ β Hs.length E.length L lv := hk.2.2.1
  have hl : lv_has ls nL lv := hk.2.2.2.1
  have hst : kc_stk ρ β Hs.length E.length K st := hk.2.2.2.2.1
  have hg : kc_ag nA ρ0 nB β0 E.length Hs.length ρ β := hg
  obtain ⟨hK, hPw, hD, hS, hC⟩ := hk.2.2.2.2.2
  have hC : kc_C ρ β E.length tys Hs ws := hC
  unfold kc_mna at h
  split at h
  · rename_i n2 d2 n1 d1 K2
    split at h
    · rename_i hc
      obtain ⟨c0, c1, c2, c3, c4, c5, c6, c7, c8⟩ := hc
      cases h
      obtain ⟨v2, st1, rfl, -, ⟨x2, rfl, ex2⟩, hst1⟩ := kc_stk.uncons hst
      obtain ⟨v1, st', rfl, -, ⟨x1, rfl, ex1⟩, hst'⟩ := kc_stk.uncons hst1
      have hb1 := hE.at (1, n1, d1)
      have hb2 := hE.at (1, n2, d2)
      dsimp only at hb1 hb2 ex1 ex2
      obtain ⟨y1, y2⟩ := kc_i32nn (x := x1) (z := kc_lo E (1, n1, d1)) (by omega) c2
      obtain ⟨y3, y4⟩ := kc_i32nn (x := x2) (z := kc_lo E (1, n2, d2)) (by omega) c5
      obtain ⟨m1, m2⟩ := hML _ c0
      obtain ⟨cy, g1, g2, g3⟩ := kc_arrI (hts _ hAC)
      generalize hN1 : (kc_lo E (1, n1, d1)).toNat = N1 at *
      generalize hN2 : (kc_lo E (1, n2, d2)).toNat = N2 at *
      have hm : N1 * N2 ≤ 3600000000 := Nat.mul_le_mul (show N1 ≤ 60000 by omega) (show N2 ≤ 60000 by omega)
      refine va_mna (X := ws) (L := []) (f := fun _ => .inr (0, [])) (ty := .int) (N' := N1) (K' := N2) (z := (N2, .inl (fun _ => 0))) hx hb hown (hts _ m1) m2 (hts _ hAC) g1 hK (by rw [show va_pl [] _ = [] from rfl, List.append_nil]; exact hPw) (by rw [show va_pl [] _ = [] from rfl, List.append_nil]; exact hD) hS hA y1 y3 y2 y4 (by omega) (by show N2 * 4 ≤ _; omega) (by omega) rfl rfl (by omega) (by omega) (fun _ => ?_) hd (fun q r cA H1 r1 r2 u0 u1 u2 u3 => ?_)
      · rw [vp_cell_i, ← arrV_new]
        rfl
      · have hpl : va_pl ([] ++ (List.range N1).map r) (vr_up (fun _ => .inr (0, [])) ((List.range N1).map r) (.inl (cy, N2, .inl (fun _ => 0)))) = (List.range N1).map (fun j => (r j, .inl (cy, N2, .inl (fun _ => 0)))) := by
          rw [List.nil_append]
          unfold va_pl
          rw [List.map_map]
          refine List.map_congr_left (fun j hj => ?_)
          show (r j, vr_up _ _ _ (r j)) = _
          rw [vr_up_in (List.mem_map.mpr ⟨j, hj, rfl⟩)]
        rw [hpl] at u1 u2
        have hK2 : va_K D cl ((tys ++ [(cA, .array .int)]) ++ [(cy, .int)]) s := u0.app ⟨hK.1, fun k z hz => by
          have h9 : k < 1 := (List.getElem?_eq_some_iff.mp hz).1
          rw [show k = 0 by omega] at hz
          cases hz
          exact ⟨g2, g3⟩⟩
        have hlen : (Hs ++ [((3, 0, .array .int, N1, (3, 0, 0), (List.range N1).map (fun j => (3, ((Hs.length + 2 + j : Nat) : Int), ((Hs.length + 2 + j : Nat) : Int))), []) : kc_G)] ++ List.replicate N1 ((1, 0, .int, N2, (1, 0, 0), [], []) : kc_G)).length = Hs.length + 1 + N1 := by simp; omega
        have b0 : ∀ k, k ≤ Hs.length → (fun k => if k ≤ Hs.length then β k else if k = Hs.length + 1 then q else r (k - (Hs.length + 2))) k = β k := fun k hk => if_pos hk
        refine k ρ (fun k => if k ≤ Hs.length then β k else if k = Hs.length + 1 then q else r (k - (Hs.length + 2))) _ ((tys ++ [(cA, .array .int)]) ++ [(cy, .int)]) H1 locs ls lv (.ref q :: st') ⟨hE, h0, ?_, hl, ?_, hK2, u1, u2, u3, hC.rows (tA := tys.length) (ty := tys.length + 1) (fun k z hz => kc_tys_app k z (kc_tys_app k z hz)) b0 ?_ (fun j hj => ?_) (by simp) (by simp)⟩ ?_
        · dsimp only
          rw [hlen]
          exact hL.ext (fun _ _ => rfl) b0 (show Hs.length ≤ Hs.length + 1 + N1 by omega) (Nat.le_refl _)
        · dsimp only
          rw [hlen]
          refine ⟨h0.1, Or.inr ⟨Hs.length + 1, ?_, by omega, by omega, by dsimp only; omega⟩, kc_stk.ext (fun _ _ => rfl) b0 (show Hs.length ≤ Hs.length + 1 + N1 by omega) (Nat.le_refl _) hst'⟩
          dsimp only
          rw [if_neg (by omega), if_pos rfl]
        · rw [if_neg (by omega), if_pos rfl]
        · rw [if_neg (by omega), if_neg (by omega)]
          congr 1
          omega
        · dsimp only
          rw [hlen]
          exact hg.ext (fun _ _ => rfl) b0 (Nat.le_refl _) (show Hs.length ≤ Hs.length + 1 + N1 by omega)
    · cases h
  · cases h
end KL
