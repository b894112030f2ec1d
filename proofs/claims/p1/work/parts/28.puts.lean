def ka_unp (pd : List (Nat × List Nat)) (n j : Nat) : List (Nat × List Nat) := pd.map (fun q => if q.1 = n then (q.1, q.2.filter (fun i => decide (i ≠ j))) else q)
theorem ka_unp.pd {ρ : Nat → Int} {α : Nat → Nat} {Γ : Nat → Option Nat} {N n j : Nat} {pd : List (Nat × List Nat)} (h : ka_pd ρ α Γ N pd) : ka_pd ρ α Γ N (ka_unp pd n j) := by
  intro q hq
  obtain ⟨q0, h1, rfl⟩ := List.mem_map.mp hq
  have := h q0 h1
  split
  · exact this
  · exact this
theorem ka_unp.P {α : Nat → Nat} {Γ : Nat → Option Nat} {av : List Nat} {pd : List (Nat × List Nat)} {P : Nat → Nat → Prop} {n j : Nat} (h : ka_P α Γ av pd P) : ka_P α Γ av (ka_unp pd n j) (fun a i => P a i ∧ ¬ (a = α n ∧ i = j)) := by
  intro a i ⟨hp, hne⟩
  rcases h a i hp with ⟨q, g1, g2, g3⟩ | g
  · left
    refine ⟨_, List.mem_map.mpr ⟨q, g1, rfl⟩, ?_, ?_⟩
    · split
      · exact g2
      · exact g2
    · split
      · rename_i e1
        refine List.mem_filter.mpr ⟨g3, decide_eq_true (fun e2 => hne ⟨?_, e2⟩)⟩
        rw [← g2, e1]
      · exact g3
  · exact Or.inr g
theorem ka_T.set {RT : List ka_R} {Γ : Nat → Option Nat} {P P' : Nat → Nat → Prop} {tys : List (ClassId × FieldType)} {ws : va_W} {k0 a : Nat} {e0 e' : va_E} (h0 : ws[k0]? = some (a, e0)) (hT : ∀ a r : Nat, Γ a = some r → ∃ (k : Nat) (e : va_E), ws[k]? = some (a, e) ∧ ka_e RT Γ P tys a r e) (hP : ∀ b j, b ≠ a → P b j → P' b j) (hne : ∀ r, Γ a = some r → ka_e RT Γ P' tys a r e') : ∀ a' r : Nat, Γ a' = some r → ∃ (k : Nat) (e : va_E), (ws.set k0 (a, e'))[k]? = some (a', e) ∧ ka_e RT Γ P' tys a' r e := by
  intro a' r hr
  have hl : k0 < ws.length := (List.getElem?_eq_some_iff.mp h0).1
  by_cases ea : a' = a
  · subst ea
    exact ⟨k0, e', by rw [List.getElem?_set_self hl], hne r hr⟩
  · obtain ⟨k, e, g1, g2⟩ := hT a' r hr
    refine ⟨k, e, ?_, g2.ext (fun _ _ h => h) (fun j h => hP a' j ea h) (fun _ _ h => h)⟩
    rw [List.getElem?_set_ne]
    · exact g1
    · intro q
      subst q
      rw [h0] at g1
      cases g1
      exact ea rfl
/-- a field written -/
def ka_put (RT : List ka_R) (cl : List vw_C) (TY : Nat → Nat → FieldType) (FL : List (Nat × Nat × Nat)) (ini : Bool) (oci ix : Nat) (E : ka_E) (K : List ka_V) (pd : List (Nat × List Nat)) : Option (List ka_V × List (Nat × List Nat)) := match K with
  | a :: (3, n, d) :: K' => match ka_knd RT E (3, n, d), ka_find FL ix with
    | some (r, (0, ci, _, fts, _, _)), some (ci', k) => match fts[k]?, cl[ci]? with
      | some f, some z => if (decide (ci = ci') && decide (f.1 = a.1) && decide (f.2.1 ≤ ka_lo E a) && decide (ka_hi E a ≤ f.2.2) && ka_fit (TY ci k) f && (!(z.2.1 k).2.2.2 || (ini && decide (ci = oci)))) = true then some (K', ka_unp pd n k) else none
      | _, _ => none
    | _, _ => none
  | _ => none
section KH
variable {p : Program} {l : Launch} {e : Env} {R : Room} {s : State} {m : MethodId} {args : Array Value} {below : List Frame} {meth : Method} {c : Code} {Q : State → Prop}
variable {cc : ByteArray} {nL : Nat} {D : va_G} {cl : List vw_C} {A : Nat → Prop} {RT : List ka_R} {av : List Nat} {H0 : Heap}
variable {Γ0 : Nat → Option Nat} {nA : Nat} {ρ0 : Nat → Int} {α0 : Nat → Nat}
variable {E E' : ka_E} {L K K' : List ka_V} {pd pd' : List (Nat × List Nat)} {cs ss pc : Nat} {TY : Nat → Nat → FieldType} {Ts : List Jvm.Cond} {own : String} {FL : List (Nat × Nat × Nat)} {ini : Bool} {oci : Nat}
set_option maxHeartbeats 4000000 in
theorem ka_put.ok {ix : Nat} (h : ka_put RT cl TY FL ini oci ix E K pd = some (K', pd')) (hx : p.tables.exec = Jvm.exec) (hb : c.code = cc) (hown : s.vm.findClass own = some m.cls) (hts : ∀ w ∈ Ts, w.before args s = true) (hCL : ka_CL cl TY Ts) (hFL : ka_FL cl own Ts FL) (hini : ini = true → meth.name = "<init>") (hoci : ∀ z : vw_C, cl[oci]? = some z → z.1 = own) (hd : decode cc pc = .ok (.putfield ix, 3))
    (k : ka_J p l e R s m args below meth c Q D cl A RT H0 av nL Γ0 nA ρ0 α0 (pc + 3) (E, L, K', pd', cs, ss)) : ka_J p l e R s m args below meth c Q D cl A RT H0 av nL Γ0 nA ρ0 α0 pc (E, L, K, pd, cs, ss) := by
  intro ρ α Γ P ws tys H locs ls lv st hk hn hΓ hρ
  obtain ⟨hE, h0, hL, hl, hst, hq, hP, hK, hPw, hD, hS, hT⟩ := hk
  dsimp only at hE h0 hL hl hst hq hP
  unfold ka_put at h
  split at h
  · rename_i a n d K2
    split at h
    · rename_i r ci fty fts lo hi ci' k' e1 e2
      split at h
      · rename_i f z hf hz
        split at h
        · rename_i hc
          simp only [Bool.and_eq_true, decide_eq_true_eq] at hc
          obtain ⟨⟨⟨⟨⟨rfl, c1⟩, c2⟩, c3⟩, c4⟩, c5⟩ := hc
          cases h
          obtain ⟨va, st1, rfl, hlta, hva, hst1⟩ := ka_stk.uncons hst
          obtain ⟨v, st', rfl, hlt, hv, hst'⟩ := ka_stk.uncons hst1
          obtain ⟨rfl, hΓ1, hR1, -⟩ := ka_knd.ok e1 hE hv
          obtain ⟨k0, e0, w1, g, w2, w3⟩ := hT _ _ hΓ1
          rw [hR1] at w2
          cases w2
          obtain ⟨fs, rfl, w4, w5⟩ := w3
          obtain ⟨z', z1, z2, z3⟩ := hFL _ (ka_find.mem e2)
          rw [hz] at z1
          cases z1
          have hkl : k' < fs.length := by rw [w4]; exact (List.getElem?_eq_some_iff.mp hf).1
          have hba := hE.at a
          have ht : ka_t Γ f va := hva.write c1 (by omega) (by omega)
          obtain ⟨y1, y2⟩ := ka_fit.ok c4 ht
          obtain ⟨q1, q2, q3, q4⟩ := hCL _ _ hz
          have kk : ∀ (H1 : Heap) (locs1 : List Loc), va_P D cl (ws.set k0 (α n, .inr (ci, fs.set k' va))) H1 → va_D A (ws.set k0 (α n, .inr (ci, fs.set k' va))) → va_S A H0 H1 locs1 → W p l e R s m args below meth c H1 locs1 cs ss Q (F0 m (pc + 3) ls st') := fun H1 locs1 u1 u2 u3 => by
            refine k ρ α Γ (fun a i => P a i ∧ ¬ (a = α n ∧ i = k')) _ tys H1 locs1 ls lv st' ⟨hE, h0, hL, hl, hst', ka_unp.pd hq, ka_unp.P hP, hK, u1, u2, u3, ka_T.set w1 hT (fun b j hbn hp => ⟨hp, fun q => hbn q.1⟩) (fun r1 hr1 => ?_)⟩ hn hΓ hρ
            rw [hΓ1] at hr1
            cases hr1
            refine ⟨_, hR1, fs.set k' va, rfl, by rw [List.length_set]; exact w4, fun j f1 v1 hf1 hv1 => ?_⟩
            by_cases ej : j = k'
            · subst ej
              rw [List.getElem?_set_self hkl] at hv1
              cases hv1
              dsimp only at hf1
              rw [hf] at hf1
              cases hf1
              exact Or.inr ht
            · rw [List.getElem?_set_ne (Ne.symm ej)] at hv1
              rcases w5 j f1 v1 hf1 hv1 with u | u
              · exact Or.inl ⟨u, fun q => ej q.2⟩
              · exact Or.inr u
          by_cases hfin : (z.2.1 k').2.2.2 = true
          · rw [hfin] at c5
            simp only [Bool.not_true, Bool.false_or, Bool.and_eq_true, decide_eq_true_eq] at c5
            obtain ⟨c6, rfl⟩ := c5
            exact va_putF hx hb hts q1 (TY ci) q2 q3 hown hK hPw hD hS k0 w1 hz k' z2 (hts _ z3) (fun _ h9 => h9) hfin (hini c6) ((q4 k' z2).trans (hoci z hz)) (q2 k' z2) y1 y2 hkl hd kk
          · have hfin : (z.2.1 k').2.2.2 = false := by simpa using hfin
            exact va_put hx hb hts q1 (TY ci) q2 q3 hown hK hPw hD hS k0 w1 hz k' z2 (hts _ z3) (fun _ h9 => h9) hfin (q2 k' z2) y1 y2 hkl hd kk
        · cases h
      · cases h
    · cases h
  · cases h
end KH
