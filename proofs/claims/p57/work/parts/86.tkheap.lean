def tk_veq (a b : tk_V) : Bool := Nat.beq a.1 b.1 && Nat.beq a.2.1 b.2.1 && decide (a.2.2 = b.2.2)
def tk_eqv (E : tk_E) (i j : tk_V) : Bool := tk_veq i j || (Nat.beq i.1 j.1 && tk_con E i.2 && tk_con E j.2 && decide (tk_lo E i.2 = tk_lo E j.2))
/-- what is known of a place -/
def tk_mf (E : tk_E) (o i : tk_V) : tk_M → Option tk_V
  | [] => none
  | f :: M => if (tk_veq f.1 o && tk_eqv E f.2.1 i) = true then some f.2.2 else tk_mf E o i M
def tk_ap (E : tk_E) (i j : tk_P) : Bool := if Nat.beq i.1 j.1 = true then decide (i.2 ≠ j.2) else decide (tk_hi E i < tk_lo E j ∨ tk_hi E j < tk_lo E i)
/-- facts that a write leaves -/
def tk_kl (E : tk_E) (M : tk_M) (κ : Nat) (i : tk_P) : tk_M := M.filter (fun f => !(Nat.beq f.1.1 (10 + κ)) || tk_ap E f.2.1.2 i)
/-- .. of another Slot too -/
def tk_ko (E : tk_E) (M : tk_M) (κ : Nat) (i a : tk_P) : tk_M := M.filter (fun f => !(Nat.beq f.1.1 (10 + κ)) || tk_ap E f.2.1.2 i || (Nat.beq κ 41 && tk_ap E f.1.2 a))
/-- a cell of the kind is named -/
def tk_nm (E : tk_E) (t : Nat) (a : tk_P) : Bool := Nat.ble 10 t && decide (1 ≤ tk_lo E a)
def tk_get (KT : Nat → tk_G) (fl : Nat → Option (Nat × Nat)) (ix : Nat) (E : tk_E) (K : List tk_V) (M : tk_M) : Option (List (tk_E × List tk_V × tk_M)) := match K with
  | (t, a) :: K' => match fl ix with
    | some (ci, k) => if (tk_nm E t a && Nat.beq (KT (t - 10)).1 0 && Nat.beq (KT (t - 10)).2.1 ci) = true then
        (match tk_mf E (t, a) (1, 0, (k : Int)) M with
        | some v => some [(E, v :: K', M)]
        | none => match (KT (t - 10)).2.2.2.2.2.2.1[k]? with
          | some al => some (al.map fun f => ((tk_mk E f.2.1 f.2.2).1, (f.1, (tk_mk E f.2.1 f.2.2).2) :: K', ((t, a), (1, 0, (k : Int)), (f.1, (tk_mk E f.2.1 f.2.2).2)) :: M))
          | none => none)
        else none
    | none => none
  | _ => none
def tk_ft (ty : FieldType) (t : Nat) (lo hi : Int) : Bool := match ty with
  | .int => Nat.beq t 1
  | .boolean => Nat.beq t 1 && decide (0 ≤ lo ∧ hi ≤ 1)
  | .long => Nat.beq t 2
  | .object _ => Nat.ble 10 t
  | .array _ => Nat.ble 10 t
  | _ => false
def tk_fit (al : List tk_F) (t : Nat) (lo hi : Int) : Bool := al.any (fun g => Nat.beq g.1 t && decide (g.2.1 ≤ lo ∧ hi ≤ g.2.2))
def tk_put (KT : Nat → tk_G) (F : List (Nat × Nat × Nat)) (fl : Nat → Option (Nat × Nat)) (fd : Nat → List (FieldType × Bool)) (ix : Nat) (E : tk_E) (K : List tk_V) (M : tk_M) : Option (List tk_V × tk_M) := match K with
  | w :: (t, a) :: K' => match fl ix with
    | some (ci, k) => match (KT (t - 10)).2.2.2.2.2.2.1[k]?, (fd ci)[k]? with
      | some al, some z => if (tk_nm E t a && Nat.beq (KT (t - 10)).1 0 && Nat.beq (KT (t - 10)).2.1 ci && tk_fit al w.1 (tk_lo E w.2) (tk_hi E w.2) && tk_ft z.1 w.1 (tk_lo E w.2) (tk_hi E w.2) && !z.2 && tk_iF F (t - 10) k) = true then some (K', ((t, a), (1, 0, (k : Int)), w) :: tk_ko E M (t - 10) (0, (k : Int)) a) else none
      | _, _ => none
    | none => none
  | _ => none
theorem tk_veq.ok {a b : tk_V} (h : tk_veq a b = true) : a = b := by
  unfold tk_veq at h
  rw [Bool.and_eq_true, Bool.and_eq_true] at h
  obtain ⟨t, n, d⟩ := a
  obtain ⟨t', n', d'⟩ := b
  cases tk_bq h.1.1
  cases tk_bq h.1.2
  cases of_decide_eq_true h.2
  rfl
theorem tk_eqv.ok {ρ : Nat → Int} {E : tk_E} {i j : tk_V} (hE : tk_env ρ E) (h : tk_eqv E i j = true) : ρ i.2.1 + i.2.2 = ρ j.2.1 + j.2.2 := by
  unfold tk_eqv at h
  rw [Bool.or_eq_true] at h
  rcases h with h | h
  · rw [tk_veq.ok h]
  · rw [Bool.and_eq_true, Bool.and_eq_true, Bool.and_eq_true] at h
    obtain ⟨⟨⟨-, h2⟩, h3⟩, h4⟩ := h
    have h2 := tk_con.eq h2
    have h3 := tk_con.eq h3
    have h4 := of_decide_eq_true h4
    have g1 := hE.at i.2
    have g2 := hE.at j.2
    omega
theorem tk_mf.ok {ρ : Nat → Int} {E : tk_E} {o i v : tk_V} (hE : tk_env ρ E) : ∀ {M : tk_M}, tk_mf E o i M = some v → ∃ f ∈ M, f.1 = o ∧ ρ f.2.1.2.1 + f.2.1.2.2 = ρ i.2.1 + i.2.2 ∧ f.2.2 = v
  | [], h => by cases h
  | f :: M, h => by
    unfold tk_mf at h
    split at h
    · rename_i hc
      cases h
      rw [Bool.and_eq_true] at hc
      exact ⟨f, List.mem_cons_self, tk_veq.ok hc.1, tk_eqv.ok hE hc.2, rfl⟩
    · obtain ⟨g, h1, h2⟩ := tk_mf.ok hE h
      exact ⟨g, List.mem_cons_of_mem _ h1, h2⟩
theorem tk_ap.ok {ρ : Nat → Int} {E : tk_E} {i j : tk_P} (hE : tk_env ρ E) (h : tk_ap E i j = true) : ρ i.1 + i.2 ≠ ρ j.1 + j.2 := by
  have g1 := hE.at i
  have g2 := hE.at j
  unfold tk_ap at h
  split at h
  · rename_i hc
    have hc := tk_bq hc
    have h := of_decide_eq_true h
    rw [hc]
    omega
  · have h := of_decide_eq_true h
    omega
theorem tk_nm.ok {ρ : Nat → Int} {B : tk_B} {E : tk_E} {t : Nat} {a : tk_P} {v : Value} (hE : tk_env ρ E) (h : tk_nm E t a = true) (hv : tk_v ρ B (t, a) v) : 10 ≤ t ∧ ∃ j ad : Nat, v = .ref ad ∧ B.2.2[j]? = some (ad, t - 10) ∧ ρ a.1 + a.2 = (j : Int) + 1 := by
  unfold tk_nm at h
  rw [Bool.and_eq_true] at h
  have ht := Nat.le_of_ble_eq_true h.1
  have hl := of_decide_eq_true h.2
  have hb := hE.at a
  refine ⟨ht, ?_⟩
  rcases (tk_vn.ref ht).mp hv with ⟨-, e⟩ | ⟨j, ad, e1, e2, e3⟩
  · dsimp only at e
    omega
  · exact ⟨j, ad, e1, e2, e3⟩
/-- a fact about a cell that is known -/
theorem tk_fa.pl {B : tk_B} {ws : va_W} {t : Nat} {zo zi zv : Int} {tv j ad : Nat} {e : va_E} (h : tk_fa B ws t zo zi tv zv) (hz : zo = (j : Int) + 1) (hw : ws[j]? = some (ad, e)) : 0 ≤ zi ∧ ∃ w : Value, tk_pl e zi.toNat = some w ∧ tk_vn B tv zv w := by
  obtain ⟨j', a', e', w, h1, h2, h3, h4, h5, h6, h7⟩ := h
  have hj : j' = j := by omega
  subst hj
  rw [hw] at h4
  cases h4
  exact ⟨h5, w, h6, h7⟩
/-- one cell changed at some places -/
theorem tk_C.set {KT : Nat → tk_G} {tys : List (ClassId × FieldType)} {B : tk_B} {ws : va_W} {j ad κ : Nat} {e' : va_E} (h : tk_C KT tys B ws) (hj : B.2.2[j]? = some (ad, κ)) (he : tk_e tys B (KT κ) e') : tk_C KT tys B (ws.set j (ad, e')) := by
  refine ⟨by rw [List.length_set]; exact h.1, fun k a κ' hk => ?_⟩
  by_cases e1 : k = j
  · subst e1
    rw [hj] at hk
    cases hk
    have hl : k < ws.length := by rw [h.1]; exact (List.getElem?_eq_some_iff.mp hj).1
    exact ⟨e', by rw [List.getElem?_set_self hl], he⟩
  · rw [List.getElem?_set_ne (Ne.symm e1)]
    exact h.2 k a κ' hk
theorem tk_fr.set {F : List (Nat × Nat × Nat)} {B0 B : tk_B} {ws0 ws : va_W} {j ad κ : Nat} {e e' : va_E} {P : Nat → Prop} (h : tk_fr F B0 ws0 ws) (hle : tk_le B0 B) (hj : B.2.2[j]? = some (ad, κ)) (hw : ws[j]? = some (ad, e)) (hP : ∀ i, P i → tk_iF F κ i = true) (hch : ∀ i, ¬ P i → tk_pl e' i = tk_pl e i) : tk_fr F B0 ws0 (ws.set j (ad, e')) := by
  intro k a κ' hk
  obtain ⟨e0, e1, h1, h2, h3⟩ := h k a κ' hk
  by_cases ek : k = j
  · subst ek
    have hk2 := hle.at hk
    rw [hj] at hk2
    cases hk2
    rw [hw] at h2
    cases h2
    refine ⟨e0, e', h1, by rw [List.getElem?_set_self (List.getElem?_eq_some_iff.mp hw).1], fun i hi => ?_⟩
    rw [hch i (fun q => by rw [hP i q] at hi; cases hi)]
    exact h3 i hi
  · exact ⟨e0, e1, h1, by rw [List.getElem?_set_ne (Ne.symm ek)]; exact h2, h3⟩
/-- facts that still hold -/
theorem tk_fa.set {B : tk_B} {ws : va_W} {j ad κ : Nat} {e e' : va_E} {P : Nat → Prop} {t : Nat} {zo zi zv : Int} {tv : Nat} (h : tk_fa B ws t zo zi tv zv) (hj : B.2.2[j]? = some (ad, κ)) (hw : ws[j]? = some (ad, e)) (hch : ∀ i, ¬ P i → tk_pl e' i = tk_pl e i) (hs : t = 10 + κ → ¬ P zi.toNat) : tk_fa B (ws.set j (ad, e')) t zo zi tv zv := by
  obtain ⟨k, a, e1, w, h1, h2, h3, h4, h5, h6, h7⟩ := h
  by_cases ek : k = j
  · subst ek
    rw [hj] at h2
    cases h2
    rw [hw] at h4
    cases h4
    refine ⟨k, ad, e', w, h1, hj, h3, by rw [List.getElem?_set_self (List.getElem?_eq_some_iff.mp hw).1], h5, ?_, h7⟩
    rw [hch _ (hs (by omega))]
    exact h6
  · exact ⟨k, a, e1, w, h1, h2, h3, by rw [List.getElem?_set_ne (Ne.symm ek)]; exact h4, h5, h6, h7⟩
theorem tk_kl.ok {ρ : Nat → Int} {B : tk_B} {E : tk_E} {n : Nat} {ws : va_W} {M : tk_M} {j ad κ : Nat} {i : tk_P} {e e' : va_E} (hE : tk_env ρ E) (h : tk_mem ρ B n ws M) (hj : B.2.2[j]? = some (ad, κ)) (hw : ws[j]? = some (ad, e)) (hi : 0 ≤ ρ i.1 + i.2) (hch : ∀ k, k ≠ (ρ i.1 + i.2).toNat → tk_pl e' k = tk_pl e k) : tk_mem ρ B n (ws.set j (ad, e')) (tk_kl E M κ i) := by
  intro f hf
  obtain ⟨h1, h2⟩ := List.mem_filter.mp hf
  obtain ⟨g1, g2⟩ := h f h1
  refine ⟨g1, tk_fa.set (P := fun k => k = (ρ i.1 + i.2).toNat) g2 hj hw (fun k hk => hch k hk) (fun et hk => ?_)⟩
  rw [Bool.or_eq_true] at h2
  rcases h2 with h2 | h2
  · rw [et, show Nat.beq (10 + κ) (10 + κ) = true from Nat.beq_refl _] at h2
    cases h2
  · have h3 := tk_ap.ok hE h2
    obtain ⟨-, -, -, -, -, -, -, -, h5, -⟩ := g2
    omega
theorem tk_ko.ok {ρ : Nat → Int} {B : tk_B} {E : tk_E} {n : Nat} {ws : va_W} {M : tk_M} {j ad κ : Nat} {i a : tk_P} {e e' : va_E} (hE : tk_env ρ E) (h : tk_mem ρ B n ws M) (hj : B.2.2[j]? = some (ad, κ)) (hw : ws[j]? = some (ad, e)) (hi : 0 ≤ ρ i.1 + i.2) (hch : ∀ k, k ≠ (ρ i.1 + i.2).toNat → tk_pl e' k = tk_pl e k) (ha : ρ a.1 + a.2 = (j : Int) + 1) : tk_mem ρ B n (ws.set j (ad, e')) (tk_ko E M κ i a) := by
  intro f hf
  obtain ⟨h1, h2⟩ := List.mem_filter.mp hf
  rw [Bool.or_eq_true] at h2
  rcases h2 with h2 | h2
  · exact tk_kl.ok hE h hj hw hi hch f (List.mem_filter.mpr ⟨h1, h2⟩)
  · rw [Bool.and_eq_true] at h2
    have h3 := tk_ap.ok hE h2.2
    obtain ⟨g1, k, b, e1, w, g2, g3, g4, g5, g6, g7, g8⟩ := h f h1
    refine ⟨g1, k, b, e1, w, g2, g3, g4, ?_, g6, g7, g8⟩
    rw [List.getElem?_set_ne (fun q => h3 (by rw [g4, ha, q]))]
    exact g5
theorem tk_fit.ok {ρ : Nat → Int} {B : tk_B} {E : tk_E} {al : List tk_F} {w : tk_V} {v : Value} (hE : tk_env ρ E) (h : tk_fit al w.1 (tk_lo E w.2) (tk_hi E w.2) = true) (hv : tk_v ρ B w v) : ∃ f ∈ al, tk_t B f v := by
  obtain ⟨g, h1, h2⟩ := List.any_eq_true.mp h
  rw [Bool.and_eq_true] at h2
  have h3 := of_decide_eq_true h2.2
  have hb := hE.at w.2
  refine ⟨g, h1, ρ w.2.1 + w.2.2, by omega, by omega, ?_⟩
  rw [tk_bq h2.1]
  exact hv
theorem tk_ft.ok {ρ : Nat → Int} {B : tk_B} {E : tk_E} {ty : FieldType} {w : tk_V} {v : Value} (hE : tk_env ρ E) (h : tk_ft ty w.1 (tk_lo E w.2) (tk_hi E w.2) = true) (hv : tk_v ρ B w v) : narrow ty v = v ∧ fits ty v = true := by
  have hb := hE.at w.2
  obtain ⟨t, a⟩ := w
  unfold tk_ft at h
  dsimp only at h hb
  have hr : 10 ≤ t → (v = .null ∨ ∃ ad, v = .ref ad) := fun ht => by
    rcases (tk_vn.ref ht).mp hv with ⟨e, -⟩ | ⟨j, ad, e, -⟩
    · exact Or.inl e
    · exact Or.inr ⟨ad, e⟩
  split at h
  · cases tk_bq h
    obtain ⟨x, rfl, -⟩ := hv
    exact ⟨rfl, rfl⟩
  · rw [Bool.and_eq_true] at h
    cases tk_bq h.1
    have h2 := of_decide_eq_true h.2
    obtain ⟨x, rfl, g1⟩ := hv
    dsimp only at g1
    have : x = 0 ∨ x = 1 := by
      rcases (show x.toInt = 0 ∨ x.toInt = 1 by omega) with q | q
      · exact Or.inl (Int32.toInt_inj.mp q)
      · exact Or.inr (Int32.toInt_inj.mp q)
    rcases this with rfl | rfl <;> exact ⟨rfl, rfl⟩
  · cases tk_bq h
    obtain ⟨x, rfl, -⟩ := hv
    exact ⟨rfl, rfl⟩
  · rcases hr (Nat.le_of_ble_eq_true h) with rfl | ⟨ad, rfl⟩ <;> exact ⟨rfl, rfl⟩
  · rcases hr (Nat.le_of_ble_eq_true h) with rfl | ⟨ad, rfl⟩ <;> exact ⟨rfl, rfl⟩
  · cases h
/-- an object of a kind -/
theorem tk_e.obj {tys : List (ClassId × FieldType)} {B : tk_B} {g : tk_G} {e : va_E} (h : tk_e tys B g e) (h0 : g.1 = 0) : ∃ fs : List Value, e = .inr (g.2.1, fs) ∧ fs.length = g.2.2.2.2.2.2.1.length ∧ ∀ (j : Nat) (al : List tk_F) (v : Value), g.2.2.2.2.2.2.1[j]? = some al → fs[j]? = some v → ∃ f ∈ al, tk_t B f v := by
  unfold tk_e at h
  rw [h0] at h
  exact h
section TH
variable {p : Program} {l : Launch} {e : Env} {R : Room} {s : State} {m : MethodId} {args : Array Value} {below : List Frame} {meth : Method} {c : Code} {Q : State → Prop}
variable {cc : ByteArray} {nL : Nat} {D : va_G} {cl : List vw_C} {A : Nat → Prop} {H0 : Heap} {KT : Nat → tk_G} {F : List (Nat × Nat × Nat)} {B0 : tk_B} {ws0 : va_W}
variable {nA : Nat} {ρ0 : Nat → Int}
variable {E : tk_E} {L K K' : List tk_V} {M M' : tk_M} {cs ss pc : Nat} {fl : Nat → Option (Nat × Nat)} {fd : Nat → List (FieldType × Bool)} {Ts : List Jvm.Cond} {own : String}
set_option maxHeartbeats 4000000 in
theorem tk_get.ok {ix : Nat} {rs : List (tk_E × List tk_V × tk_M)} (h : tk_get KT fl ix E K M = some rs) (hx : p.tables.exec = Jvm.exec) (hb : c.code = cc) (hown : s.vm.findClass own = some m.cls) (hts : ∀ w ∈ Ts, w.before args s = true) (hCL : kc_CL cl fd Ts) (hFL : kc_FL cl own Ts fl) (hd : decode cc pc = .ok (.getfield ix, 3))
    (k : ∀ q ∈ rs, tk_J p l e R s m args below meth c Q D cl A H0 KT F B0 ws0 nL nA ρ0 (pc + 3) (q.1, L, q.2.1, q.2.2, cs, ss)) : tk_J p l e R s m args below meth c Q D cl A H0 KT F B0 ws0 nL nA ρ0 pc (E, L, K, M, cs, ss) := by
  intro ρ B ws tys H locs ls lv st hk hg
  have hE : tk_env ρ E := hk.1
  have h0 : 0 < E.length ∧ ρ 0 = 0 := hk.2.1
  have hst : tk_stk ρ B E.length K st := hk.2.2.2.2.1
  have hM : tk_mem ρ B E.length ws M := hk.2.2.2.2.2.1
  have hg : tk_ag nA ρ0 E.length ρ := hg
  obtain ⟨hK, hPw, hD, hS, hC, hFr, hLe, hBl⟩ := hk.2.2.2.2.2.2
  unfold tk_get at h
  split at h
  · rename_i t a K2
    split at h
    · rename_i ci k' e2
      split at h
      · rename_i hc
        rw [Bool.and_eq_true, Bool.and_eq_true] at hc
        obtain ⟨v, st', rfl, hlt, hv, hst'⟩ := tk_stk.uncons hst
        obtain ⟨ht, j, ad, rfl, hB, hz⟩ := tk_nm.ok hE hc.1.1 hv
        obtain ⟨e0, w1, w3⟩ := hC.2 _ _ _ hB
        obtain ⟨fs1, rfl, w4, w5⟩ := w3.obj (tk_bq hc.1.2)
        obtain ⟨z, z1, z2, z3⟩ := hFL _ _ _ e2
        rw [tk_bq hc.2] at w1
        split at h
        · rename_i v1 hmf
          cases h
          obtain ⟨f, f1, f2, f3, f4⟩ := tk_mf.ok hE hmf
          obtain ⟨⟨-, -, g3⟩, g4⟩ := hM f f1
          rw [f2, f3, f4] at g4
          rw [f4] at g3
          obtain ⟨-, w, hw1, hw2⟩ := g4.pl hz w1
          have hkk : (ρ 0 + (k' : Int)).toNat = k' := by rw [h0.2]; omega
          dsimp only at hw1
          rw [hkk] at hw1
          exact va_get hx hb hts (hCL _ _ z1).1 hown hK hPw j w1 z1 k' z2 (hts _ z3) (fun _ h9 => h9) hw1 hd (tk_J.go (k _ List.mem_cons_self) hk hg ⟨g3, hw2, hst'⟩)
        · split at h
          · rename_i al hal
            cases h
            have hkl : k' < fs1.length := by rw [w4]; exact (List.getElem?_eq_some_iff.mp hal).1
            have hv1 : fs1[k']? = some fs1[k'] := List.getElem?_eq_getElem hkl
            obtain ⟨f, hf, z0, q1, q2, q3⟩ := w5 k' al _ hal hv1
            obtain ⟨ρ', g1, g3, g4, g5, g6⟩ := tk_mk.ok hE h0 q1 q2
            have kk := k _ (List.mem_map.mpr ⟨f, hf, rfl⟩)
            refine va_get hx hb hts (hCL _ _ z1).1 hown hK hPw j w1 z1 k' z2 (hts _ z3) (fun _ h9 => h9) hv1 hd (tk_J.mv kk hk hg g1 g3 g4 (hk.2.2.1.ext g1 (tk_le.rf B) g4) hk.2.2.2.1 ⟨g5, ?_, tk_stk.ext g1 (tk_le.rf B) g4 hst'⟩ (tk_mem.cons ⟨⟨Nat.lt_of_lt_of_le hlt g4, Nat.lt_of_lt_of_le h0.1 g4, g5⟩, ?_⟩ (hM.ext g1 g4)))
            · unfold tk_v
              dsimp only
              rw [g6]
              exact q3
            · refine ⟨j, ad, _, fs1[k'], ht, hB, ?_, w1, ?_, ?_, ?_⟩
              · dsimp only
                rw [g1 _ hlt]
                exact hz
              · dsimp only
                rw [g1 _ h0.1, h0.2]
                omega
              · dsimp only
                rw [g1 _ h0.1, h0.2, show ((0 : Int) + (k' : Int)).toNat = k' by omega]
                exact hv1
              · dsimp only
                rw [g6]
                exact q3
          · cases h
      · cases h
    · cases h
  · cases h
set_option maxHeartbeats 4000000 in
theorem tk_put.ok {ix : Nat} (h : tk_put KT F fl fd ix E K M = some (K', M')) (hx : p.tables.exec = Jvm.exec) (hb : c.code = cc) (hown : s.vm.findClass own = some m.cls) (hts : ∀ w ∈ Ts, w.before args s = true) (hCL : kc_CL cl fd Ts) (hFL : kc_FL cl own Ts fl) (hd : decode cc pc = .ok (.putfield ix, 3))
    (k : tk_J p l e R s m args below meth c Q D cl A H0 KT F B0 ws0 nL nA ρ0 (pc + 3) (E, L, K', M', cs, ss)) : tk_J p l e R s m args below meth c Q D cl A H0 KT F B0 ws0 nL nA ρ0 pc (E, L, K, M, cs, ss) := by
  intro ρ B ws tys H locs ls lv st hk hg
  obtain ⟨hE, h0, hL, hl, hst, hM, hK, hPw, hD, hS, hC, hFr, hLe, hBl⟩ := hk
  dsimp only at hE h0 hL hl hst hM hBl
  have hg : tk_ag nA ρ0 E.length ρ := hg
  unfold tk_put at h
  split at h
  · rename_i w t a K2
    split at h
    · rename_i ci k' e2
      split at h
      · rename_i al z hal hz0
        split at h
        · rename_i hc
          simp only [Bool.and_eq_true] at hc
          obtain ⟨⟨⟨⟨⟨⟨c1, c2⟩, c3⟩, c4⟩, c5⟩, c6⟩, c7⟩ := hc
          cases h
          obtain ⟨va, st1, rfl, hlta, hva, hst1⟩ := tk_stk.uncons hst
          obtain ⟨v, st', rfl, hlt, hv, hst'⟩ := tk_stk.uncons hst1
          obtain ⟨ht, j, ad, rfl, hB, hz⟩ := tk_nm.ok hE c1 hv
          obtain ⟨e0, w1, w3⟩ := hC.2 _ _ _ hB
          obtain ⟨fs1, rfl, w4, w5⟩ := w3.obj (tk_bq c2)
          obtain ⟨z', z1, z2, z3⟩ := hFL _ _ _ e2
          have c3 := tk_bq c3
          rw [c3] at w1
          have hkl : k' < fs1.length := by rw [w4]; exact (List.getElem?_eq_some_iff.mp hal).1
          obtain ⟨y1, y2⟩ := tk_ft.ok hE c5 hva
          obtain ⟨q1, q0, q2, q3, q4, q5, -⟩ := hCL _ _ z1
          have hz2 : (fd ci).getD k' (.int, false) = z := by rw [List.getD_eq_getElem?_getD, hz0]; rfl
          have q2k := q2 k' z2
          rw [hz2] at q2k
          have q5k := q5 k' z2
          rw [hz2] at q5k
          have hfin : z.2 = false := by simpa using c6
          have hch : ∀ i, i ≠ k' → tk_pl (.inr (ci, fs1.set k' va)) i = tk_pl (.inr (ci, fs1)) i := fun i hi => by
            unfold tk_pl
            dsimp only
            rw [List.getElem?_set_ne (Ne.symm hi)]
          refine va_put hx hb hts q1 (fun k => ((fd ci).getD k (.int, false)).1) q2 q3 hown hK hPw hD hS j w1 z1 k' z2 (hts _ z3) (fun _ h9 => h9) (q5k.trans hfin) (q2k) y1 y2 hkl hd (fun H1 locs1 u1 u2 u3 => ?_)
          refine k ρ B _ tys H1 locs1 ls lv st' ⟨hE, h0, hL, hl, hst', ?_, hK, u1, u2, u3, ?_, ?_, hLe, hBl⟩ hg
          · refine tk_mem.cons ⟨⟨hlt, h0.1, hlta⟩, ?_⟩ (tk_ko.ok hE hM hB w1 (by dsimp only; rw [h0.2]; omega) (fun i hi => hch i ?_) hz)
            · refine ⟨j, ad, _, va, ht, hB, hz, by rw [List.getElem?_set_self (List.getElem?_eq_some_iff.mp w1).1], ?_, ?_, hva⟩
              · dsimp only
                rw [h0.2]
                omega
              · dsimp only
                rw [h0.2, show ((0 : Int) + (k' : Int)).toNat = k' by omega]
                unfold tk_pl
                dsimp only
                rw [List.getElem?_set_self hkl]
            · dsimp only at hi
              rw [h0.2, show ((0 : Int) + (k' : Int)).toNat = k' by omega] at hi
              exact hi
          · refine hC.set hB ?_
            unfold tk_e
            rw [tk_bq c2]
            refine ⟨fs1.set k' va, by rw [c3], by rw [List.length_set]; exact w4, fun i al1 v1 ha1 hv1 => ?_⟩
            by_cases ei : i = k'
            · subst ei
              rw [List.getElem?_set_self hkl] at hv1
              cases hv1
              rw [hal] at ha1
              cases ha1
              exact tk_fit.ok hE c4 hva
            · rw [List.getElem?_set_ne (Ne.symm ei)] at hv1
              exact w5 i al1 v1 ha1 hv1
          · exact hFr.set (P := fun i => i = k') hLe hB w1 (fun i hi => by rw [hi]; exact c7) (fun i hi => hch i hi)
        · cases h
      · cases h
    · cases h
  · cases h
end TH
