/-- a field's default value -/
def ka_dft (ty : FieldType) (f : ka_F) : Bool := (match ty with
  | .int => decide (f.1 = 1) | .boolean => decide (f.1 = 1) | .byte => decide (f.1 = 1) | .short => decide (f.1 = 1) | .char => decide (f.1 = 1)
  | .long => decide (f.1 = 2)
  | .object _ => decide (f.1 = 3) | .array _ => decide (f.1 = 3)
  | _ => false) && decide (f.2.1 ≤ 0 ∧ 0 ≤ f.2.2)
theorem ka_dft.ok {Γ : Nat → Option Nat} {ty : FieldType} {f : ka_F} (h : ka_dft ty f = true) : ka_t Γ f (defaultValue ty) := by
  obtain ⟨t, lo, hi⟩ := f
  unfold ka_dft at h
  rw [Bool.and_eq_true] at h
  obtain ⟨h1, h2⟩ := h
  have h2 := of_decide_eq_true h2
  split at h1
  · cases of_decide_eq_true h1; exact ⟨0, rfl, h2.1, h2.2⟩
  · cases of_decide_eq_true h1; exact ⟨0, rfl, h2.1, h2.2⟩
  · cases of_decide_eq_true h1; exact ⟨0, rfl, h2.1, h2.2⟩
  · cases of_decide_eq_true h1; exact ⟨0, rfl, h2.1, h2.2⟩
  · cases of_decide_eq_true h1; exact ⟨0, rfl, h2.1, h2.2⟩
  · cases of_decide_eq_true h1; exact ⟨0, rfl, h2.1, h2.2⟩
  · cases of_decide_eq_true h1; exact Or.inl ⟨rfl, h2.1, h2.2⟩
  · cases of_decide_eq_true h1; exact Or.inl ⟨rfl, h2.1, h2.2⟩
  · cases h1
/-- the world with a new cell -/
theorem ka_T.push {RT : List ka_R} {Γ : Nat → Option Nat} {P P' : Nat → Nat → Prop} {tys tys' : List (ClassId × FieldType)} {ws : va_W} {q r : Nat} {e' : va_E} (hT : ∀ a r : Nat, Γ a = some r → ∃ (k : Nat) (e : va_E), ws[k]? = some (a, e) ∧ ka_e RT Γ P tys a r e) (hq : Γ q = none) (hP : ∀ b j, P b j → P' b j) (ht : ∀ (k : Nat) (z : ClassId × FieldType), tys[k]? = some z → tys'[k]? = some z) (hne : ka_e RT (va_up Γ q (some r)) P' tys' q r e') : ∀ a' r' : Nat, va_up Γ q (some r) a' = some r' → ∃ (k : Nat) (e : va_E), (ws ++ [(q, e')])[k]? = some (a', e) ∧ ka_e RT (va_up Γ q (some r)) P' tys' a' r' e := by
  intro a' r' hr
  by_cases ea : a' = q
  · subst ea
    rw [va_up_self] at hr
    cases hr
    exact ⟨ws.length, e', by simp, hne⟩
  · rw [va_up_ne _ _ ea] at hr
    obtain ⟨k, e, g1, g2⟩ := hT a' r' hr
    refine ⟨k, e, ?_, g2.ext (fun b r2 h => ?_) (fun j h => hP a' j h) ht⟩
    · rw [List.getElem?_append_left (List.getElem?_eq_some_iff.mp g1).1]
      exact g1
    · rw [va_up_ne]
      · exact h
      · intro hbq
        rw [hbq, hq] at h
        cases h
/-- a new cell's address is new -/
theorem ka_new_addr {RT : List ka_R} {Γ : Nat → Option Nat} {P : Nat → Nat → Prop} {tys : List (ClassId × FieldType)} {A : Nat → Prop} {ws : va_W} {q : Nat} {e' : va_E} (hT : ∀ a r : Nat, Γ a = some r → ∃ (k : Nat) (e : va_E), ws[k]? = some (a, e) ∧ ka_e RT Γ P tys a r e) (hD : va_D A (ws ++ [(q, e')])) : Γ q = none := by
  cases hq : Γ q with
  | none => rfl
  | some r =>
    obtain ⟨k, e, g1, -⟩ := hT q r hq
    have hl : k < ws.length := (List.getElem?_eq_some_iff.mp g1).1
    have h1 : (ws ++ [(q, e')])[k]? = some (q, e) := by rw [List.getElem?_append_left hl]; exact g1
    have h2 : (ws ++ [(q, e')])[ws.length]? = some (q, e') := by simp
    have := hD.1 k ws.length _ _ h1 h2 rfl
    omega
/-- where the default isn't what is asked for -/
def ka_due (TY : Nat → FieldType) : Nat → List ka_F → List Nat
  | _, [] => []
  | k, f :: fs => if ka_dft (TY k) f = true then ka_due TY (k + 1) fs else k :: ka_due TY (k + 1) fs
theorem ka_due.ok {TY : Nat → FieldType} : ∀ (fs : List ka_F) (k j : Nat) (f : ka_F), fs[j]? = some f → k + j ∉ ka_due TY k fs → ka_dft (TY (k + j)) f = true
  | [], _, j, _, h, _ => by simp at h
  | f1 :: fs, k, 0, f, h, hn => by
    cases h
    unfold ka_due at hn
    split at hn
    · assumption
    · exact absurd List.mem_cons_self hn
  | f1 :: fs, k, j + 1, f, h, hn => by
    have h1 : fs[j]? = some f := by simpa using h
    have h2 : k + 1 + j ∉ ka_due TY (k + 1) fs := by
      intro q
      apply hn
      unfold ka_due
      have e : k + (j + 1) = k + 1 + j := by omega
      rw [e]
      split
      · exact q
      · exact List.mem_cons_of_mem _ q
    have := ka_due.ok fs (k + 1) j f h1 h2
    have e : k + (j + 1) = k + 1 + j := by omega
    rw [e]
    exact this
/-- a class's own links to classes of which it makes objects: the index, the class, the kind -/
def ka_NL (cl : List vw_C) (own : String) (Ts : List Jvm.Cond) (NL : List (Nat × Nat × Nat)) : Prop := ∀ q ∈ NL, ∃ z : vw_C, cl[q.2.1]? = some z ∧ Jvm.Cond.classLink own q.1 z.1 ∈ Ts ∧ Jvm.Cond.instantiable z.1 z.2.2 ∈ Ts ∧ Jvm.Cond.initialized z.1 ∈ Ts
def ka_nw (RT : List ka_R) (cl : List vw_C) (TY : Nat → Nat → FieldType) (NL : List (Nat × Nat × Nat)) (RC RS ix : Nat) (E : ka_E) (K : List ka_V) (pd : List (Nat × List Nat)) (cs ss : Nat) : Option (ka_E × List ka_V × List (Nat × List Nat) × Nat × Nat) := match ka_find NL ix with
  | some (ci, r) => match RT[r]?, cl[ci]? with
    | some (0, ci', _, fts, _, _), some z => if ci' = ci ∧ fts.length = z.2.2 ∧ cs + 1 ≤ RC ∧ ss + z.2.2 ≤ RS then some (E ++ [((r : Int) + 1, (r : Int) + 1)], (3, E.length, 0) :: K, (E.length, ka_due (TY ci) 0 fts) :: pd, cs + 1, ss + z.2.2) else none
    | _, _ => none
  | none => none
section KK
variable {p : Program} {l : Launch} {e : Env} {R : Room} {s : State} {m : MethodId} {args : Array Value} {below : List Frame} {meth : Method} {c : Code} {Q : State → Prop}
variable {cc : ByteArray} {nL : Nat} {D : va_G} {cl : List vw_C} {A : Nat → Prop} {RT : List ka_R} {av : List Nat} {H0 : Heap}
variable {Γ0 : Nat → Option Nat} {nA : Nat} {ρ0 : Nat → Int} {α0 : Nat → Nat}
variable {E E' : ka_E} {L K K' : List ka_V} {pd pd' : List (Nat × List Nat)} {cs ss cs' ss' pc : Nat} {TY : Nat → Nat → FieldType} {Ts : List Jvm.Cond} {own : String} {NL : List (Nat × Nat × Nat)} {RC RS : Nat}
/-- the checker's state with a new cell -/
theorem ka_J.cell {ρ : Nat → Int} {α : Nat → Nat} {Γ : Nat → Option Nat} {P : Nat → Nat → Prop} {ws : va_W} {tys tys' : List (ClassId × FieldType)} {H H1 : Heap} {locs locs1 : List Loc} {ls : Array Slot} {lv : List (Nat × Value)} {st st' : List Value} {q r : Nat} {js : List Nat} {e' : va_E}
    (k : ka_J p l e R s m args below meth c Q D cl A RT H0 av nL Γ0 nA ρ0 α0 pc (E ++ [((r : Int) + 1, (r : Int) + 1)], L, (3, E.length, 0) :: K', (E.length, js) :: pd, cs, ss)) (hk : ka_ok D cl A RT s H0 av nL E L K pd ρ α Γ P ws tys H locs ls lv st) (hn : nA ≤ E.length) (hΓ : ∀ b r, Γ0 b = some r → Γ b = some r) (hρ : ∀ k, k < nA → ρ k = ρ0 k ∧ α k = α0 k)
    (hst' : ka_stk ρ α Γ E.length K' st') (hK1 : va_K D cl tys' s) (u1 : va_P D cl (ws ++ [(q, e')]) H1) (u2 : va_D A (ws ++ [(q, e')])) (u3 : va_S A H0 H1 locs1) (ht : ∀ (k : Nat) (z : ClassId × FieldType), tys[k]? = some z → tys'[k]? = some z)
    (hne : ka_e RT (va_up Γ q (some r)) (fun a j => P a j ∨ (a = q ∧ j ∈ js)) tys' q r e') : W p l e R s m args below meth c H1 locs1 cs ss Q (F0 m pc ls (.ref q :: st')) := by
  obtain ⟨hE, h0, hL, hl, hst, hq, hP, hK, hPw, hD, hS, hT⟩ := hk
  have hnew := ka_new_addr hT u2
  have g1 : ∀ k, k < E.length → va_up ρ E.length ((r : Int) + 1) k = ρ k := fun k h => va_up_ne _ _ (Nat.ne_of_lt h)
  have g2 : ∀ k, k < E.length → va_up α E.length q k = α k := fun k h => va_up_ne _ _ (Nat.ne_of_lt h)
  have g3 : ∀ b r', Γ b = some r' → va_up Γ q (some r) b = some r' := fun b r' h => by
    rw [va_up_ne]
    · exact h
    · intro z
      rw [z, hnew] at h
      cases h
  have g4 : E.length ≤ (E ++ [((r : Int) + 1, (r : Int) + 1)]).length := by simp
  refine k (va_up ρ E.length ((r : Int) + 1)) (va_up α E.length q) (va_up Γ q (some r)) (fun a j => P a j ∨ (a = q ∧ j ∈ js)) _ tys' H1 locs1 ls lv (.ref q :: st') ⟨hE.push (Int.le_refl _) (Int.le_refl _), ⟨Nat.lt_of_lt_of_le h0.1 g4, by rw [g1 0 h0.1]; exact h0.2⟩, hL.ext g1 g2 g3 g4, hl, ⟨by simp, Or.inr ⟨r, ?_, ?_, ?_⟩, ka_stk.ext g1 g2 g3 g4 hst'⟩, ?_, ?_, hK1, u1, u2, u3, ka_T.push hT hnew (fun _ _ h => Or.inl h) ht hne⟩ (Nat.le_trans hn g4) (fun b r' h => g3 b r' (hΓ b r' h)) (fun k h => ⟨(g1 k (Nat.lt_of_lt_of_le h hn)).trans (hρ k h).1, (g2 k (Nat.lt_of_lt_of_le h hn)).trans (hρ k h).2⟩)
  · dsimp only; rw [va_up_self]
  · dsimp only; rw [va_up_self, va_up_self]
  · dsimp only; rw [va_up_self]; omega
  · intro z hz
    rcases List.mem_cons.mp hz with rfl | hz
    · exact ⟨by simp, r, by dsimp only; rw [va_up_self, va_up_self], by dsimp only; rw [va_up_self]⟩
    · exact hq.ext g1 g2 g3 g4 z hz
  · intro a j hp
    rcases hp with hp | ⟨rfl, hp⟩
    · rcases hP a j hp with ⟨z, z1, z2, z3⟩ | ⟨r', z1, z2⟩
      · exact Or.inl ⟨z, List.mem_cons_of_mem _ z1, by rw [g2 _ (hq z z1).1]; exact z2, z3⟩
      · exact Or.inr ⟨r', g3 _ _ z1, z2⟩
    · exact Or.inl ⟨_, List.mem_cons_self, by dsimp only; rw [va_up_self], hp⟩
set_option maxHeartbeats 4000000 in
theorem ka_nw.ok {ix : Nat} (h : ka_nw RT cl TY NL RC RS ix E K pd cs ss = some (E', K', pd', cs', ss')) (hx : p.tables.exec = Jvm.exec) (hb : c.code = cc) (hown : s.vm.findClass own = some m.cls) (hts : ∀ w ∈ Ts, w.before args s = true) (hCL : ka_CL cl TY Ts) (hNL : ka_NL cl own Ts NL) (hRC : RC ≤ R.cells) (hRS : RS ≤ R.slots) (hA : ∀ q, H0.size ≤ q → A q) (hd : decode cc pc = .ok (.new ix, 3))
    (k : ka_J p l e R s m args below meth c Q D cl A RT H0 av nL Γ0 nA ρ0 α0 (pc + 3) (E', L, K', pd', cs', ss')) : ka_J p l e R s m args below meth c Q D cl A RT H0 av nL Γ0 nA ρ0 α0 pc (E, L, K, pd, cs, ss) := by
  intro ρ α Γ P ws tys H locs ls lv st hk hn hΓ hρ
  have hst : ka_stk ρ α Γ E.length K st := hk.2.2.2.2.1
  obtain ⟨hK, hPw, hD, hS, hT⟩ := hk.2.2.2.2.2.2.2
  unfold ka_nw at h
  split at h
  · rename_i ci r e1
    split at h
    · rename_i ci' fty fts lo hi z hR1 hz
      split at h
      · rename_i hc
        obtain ⟨rfl, c2, c3, c4⟩ := hc
        cases h
        obtain ⟨z', z1, z2, z3, z4⟩ := hNL _ (ka_find.mem e1)
        dsimp only at z1
        rw [hz] at z1
        cases z1
        obtain ⟨q1, q2, q3, q4⟩ := hCL _ _ hz
        refine va_new (fs := (List.range z.2.2).map (fun j => defaultValue (TY ci' j))) hx hb hts q1 (TY ci') q2 hown (hts _ z2) (hts _ z3) (hts _ z4) hK hPw hD hS hA hz (fun j hj => ?_) (by omega) (by omega) hd (fun q H1 u1 u2 u3 => ?_)
        · simp [vp_V, hj]
        · refine ka_J.cell k hk hn hΓ hρ hst hK u1 u2 u3 (fun _ _ h => h) ⟨_, hR1, _, rfl, by simp [c2], fun j f v hf hv => ?_⟩
          dsimp only at hf
          have hj : j < z.2.2 := by rw [← c2]; exact (List.getElem?_eq_some_iff.mp hf).1
          have hv1 : v = defaultValue (TY ci' j) := by
            simp [hj] at hv
            exact hv.symm
          subst hv1
          by_cases hd : j ∈ ka_due (TY ci') 0 fts
          · exact Or.inl (Or.inr ⟨rfl, hd⟩)
          · have := ka_due.ok (TY := TY ci') fts 0 j f hf (by simpa using hd)
            rw [Nat.zero_add] at this
            exact Or.inr (ka_dft.ok this)
      · cases h
    · cases h
  · cases h
end KK
