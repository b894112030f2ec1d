/-! ===== the law's head, and calls that are not plain ===== -/
def tm_E0 : tk_E := [(0, 0, 0, 0, 0, 0), (0, 3072, 0, 0, 0, 0), (1, 1000000000, 0, 0, 0, 0), (1, 1000000000, 0, 0, 0, 0), (1, 1000000000, 0, 0, 0, 0), (1, 1000000000, 0, 0, 0, 0), (1, 1000000000, 0, 0, 0, 0), (1, 1000000000, 0, 0, 0, 0), (1, 1000000000, 0, 0, 0, 0), (1, 1000000000, 0, 0, 0, 0)]
/-- the head's states: b: Walks.rest is made; d: its sums are made -/
def tm_w (b d : Bool) : tk_A := ([(0, 3072, 0, 0, 0, 0), (1, 1000000000, 0, 0, 0, 0), (1, 1000000000, 0, 0, 0, 0), (1, 1000000000, 0, 0, 0, 0)], [(5, 0, 0), (10, 2, 0), (53, 3, 0), (1, 10, 0)], [], [((10, 2, 0), (1, 0, 12), (43, 4, 0)), ((43, 4, 0), (1, 0, 0), (if b = true then 45 else 44, 11, 0)), ((43, 4, 0), (1, 0, 1), (if d = true then 47 else 46, 12, 0)), ((43, 4, 0), (1, 0, 2), (if d = true then 47 else 46, 13, 0)), ((53, 3, 0), (1, 0, 17), (60, 5, 0)), ((53, 3, 0), (1, 0, 18), (61, 6, 0)), ((53, 3, 0), (1, 0, 52), (92, 7, 0)), ((53, 3, 0), (1, 0, 53), (93, 8, 0)), ((53, 3, 0), (1, 0, 54), (94, 9, 0))] ++ (if b = true then [] else [((43, 4, 0), (1, 0, 7), (1, 0, 0))]), (10, 0), true)
def tm_h (b d : Bool) : tm_X := (tm_E0 ++ (tm_w b d).1, (tm_w b d).2.1, [], (tm_w b d).2.2.2.1, [])
def tm_in (b d : Bool) (X : tm_X) : Bool := match tk_wi 10 0 0 (tm_w b d) (X.1, X.2.1, X.2.2.1, X.2.2.2.1, 0, 0) with
  | some ys => decide (ys[0]? = some (0, 10, 0, 6))
  | none => false
/-- a round is over: dc cells, ds slots were taken in it -/
def tm_fin (b : Bool) (dc ds : Nat) (X : tm_X) : Bool := [(false, false), (false, true), (true, false), (true, true)].any (fun q => tm_in q.1 q.2 X && Nat.ble dc 54 && Nat.ble ds (8220 + (if (!b && q.1) = true then 40000 else 0)) && (!b || q.1))
abbrev tm_K : Type := Nat → Nat → Nat → tm_X → Bool
/-- meters[b], below[12 b] behind a call -/
def tm_j1b (F : List (Nat × Nat × Nat)) (M : tk_M) (E' : tk_E) (M' : tk_M) (b : Nat) : Bool := (!(tk_iF F 50 b) && !(tk_iF F 51 (12 * b))) || M'.any (fun f => tk_veq f.1 (60, 5, 0) && tk_veq f.2.1 (1, 0, (b : Int)) && Nat.beq f.2.2.1 1 && M'.any (fun g => tk_veq g.1 (61, 6, 0) && tk_veq g.2.1 (1, 0, ((12 * b : Nat) : Int)) && Nat.beq g.2.2.1 1 && ((tk_con E' f.2.2.2 && decide (tk_lo E' f.2.2.2 = 0)) || (tk_con E' g.2.2.2 && decide (tk_lo E' g.2.2.2 = -1)) || (List.range 4).any (fun b0 => M.any (tl_veq3 ((60, 5, 0), (1, 0, (b0 : Int)), f.2.2)) && M.any (tl_veq3 ((61, 6, 0), (1, 0, ((12 * b0 : Nat) : Int)), g.2.2))))))
/-- a call with a hand's words on READINGS -/
def tm_jc (k : tk_K) (j : tl_Y) (ts : List (tk_V × tk_V)) (cont : Nat → tm_X → Bool) (pc : Nat) (X : tm_X) : Bool := match tm_cl tt_T k ts pc X with
  | some r => tm_z k && decide (tk_sb 1 r.2.2.1 (j.1, 0) = some (7, 0) ∧ tk_sb 1 r.2.2.1 (j.2.1, 0) = some (8, 0) ∧ tk_sb 1 r.2.2.1 (j.2.2, 0) = some (9, 0)) && Nat.ble 10 X.1.length && r.2.2.2.all (fun w => (List.range 4).all (tm_j1b k.2.2.2.2.2 r.2.1 w.2.1 w.2.2.2.2.1) && cont (pc + 3) w.2)
  | none => false
/-- leak, span: by what meters[0], below[0] are -/
def tm_lc1 (k : tk_K) (f : tk_V × tk_V × tk_V) (cont : Nat → tm_X → Bool) (pc : Nat) (X : tm_X) : Bool := match tm_cl tt_T k [] pc (X.1, X.2.1, X.2.2.1, f :: X.2.2.2.1, X.2.2.2.2) with
  | some r => tm_z k && tm_far k.2.2.2.2.2 && r.2.2.2.all (fun w => cont (pc + 3) w.2)
  | none => false
def tm_lc (kZ kU : tk_K) (cont : Nat → tm_X → Bool) (pc : Nat) (X : tm_X) : Bool := Nat.ble 10 X.1.length && tm_lc1 kZ ((60, 5, 0), (1, 0, 0), (1, 0, 0)) cont pc X && tm_lc1 kU ((61, 6, 0), (1, 0, 0), (1, 0, -1)) cont pc X
/-- calls that take rooms: as the tables say -/
def tm_rc (T : tk_T) (k : tk_K) (cont : tm_K) (dc ds pc : Nat) (X : tm_X) : Bool := match tm_cl T k [] pc X with
  | some r => tm_far k.2.2.2.2.2 && Nat.ble (dc + (tk_Tmi T k.1).2.2.1) 1000 && Nat.ble (ds + (tk_Tmi T k.1).2.2.2.1) 100000 && r.2.2.2.all (fun w => cont (dc + (tk_Tmi T k.1).2.2.1) (ds + (tk_Tmi T k.1).2.2.2.1) (pc + 3) w.2)
  | none => false
/-- .. as each end says -/
def tm_ac (k : tk_K) (cont : tm_K) (dc ds pc : Nat) (X : tm_X) : Bool := match tm_cl tt_T k [] pc X with
  | some r => tm_far k.2.2.2.2.2 && Nat.ble (dc + (tk_Tmi tt_T k.1).2.2.1) 1000 && Nat.ble (ds + (tk_Tmi tt_T k.1).2.2.2.1) 100000 && r.2.2.2.all (fun w => Nat.ble w.1.2.2.2.2.1.1 (tk_Tmi tt_T k.1).2.2.1 && Nat.ble w.1.2.2.2.2.1.2.toNat (tk_Tmi tt_T k.1).2.2.2.1 && cont (dc + (tk_Tmi tt_T k.1).2.2.1) (ds + w.1.2.2.2.2.1.2.toNat) (pc + 3) w.2)
  | none => false
/-- a fact more -/
theorem tm_fact {KT : Nat → tk_G} {tys : List (ClassId × FieldType)} {B : tk_B} {ws : va_W} {z : Int} {i κ tv : Nat} {zv : Int} {w : Value} (hC : tk_C KT tys B ws) (hk : tl_kd B z κ) (h : tl_pl ws z i = some w) (hv : tk_vn B tv zv w) : tk_fa B ws (10 + κ) z (i : Int) tv zv := by
  obtain ⟨j, a, h1, h2⟩ := hk
  obtain ⟨e, e1, -⟩ := hC.2 j a κ h2
  unfold tl_pl at h
  rw [h1, show ((j : Int) + 1 - 1).toNat = j by omega, e1] at h
  exact ⟨j, a, e, w, by omega, by rw [show 10 + κ - 10 = κ by omega]; exact h2, h1, e1, by omega, by rw [Int.toNat_natCast]; exact h, hv⟩
theorem tm_j1b.ok {F : List (Nat × Nat × Nat)} {M M' : tk_M} {E E' : tk_E} {b : Nat} {B0 B B' : tk_B} {ws ws' : va_W} {ρ ρ' : Nat → Int} {z5 z6 : Int} (h : tm_j1b F M E' M' b = true) (hJ : tm_J1 ws z5 z6) (k5 : tl_kd B0 z5 50) (k6 : tl_kd B0 z6 51) (hb : b < 4) (hf : tk_fr F B0 ws ws') (hM : tk_mem ρ B E.length ws M) (hM' : tk_mem ρ' B' E'.length ws' M') (hE' : tk_env ρ' E') (hz : ρ' 0 = 0) (hag : tk_ag E.length ρ E'.length ρ') (h10 : 10 ≤ E.length) (e5 : ρ 5 = z5) (e6 : ρ 6 = z6) : tl_pl ws' z5 b = some (.int 0) ∨ tl_pl ws' z6 (12 * b) = some (.int (-1)) := by
  unfold tm_j1b at h
  rw [Bool.or_eq_true] at h
  rcases h with h | h
  · rw [Bool.and_eq_true] at h
    have h1 : tk_iF F 50 b = false := by simpa using h.1
    have h2 : tk_iF F 51 (12 * b) = false := by simpa using h.2
    rw [tl_pl.fr hf k5 h1, tl_pl.fr hf k6 h2]
    exact hJ b hb
  · obtain ⟨f, hfm, h⟩ := List.any_eq_true.mp h
    rw [Bool.and_eq_true, Bool.and_eq_true, Bool.and_eq_true] at h
    obtain ⟨⟨⟨f1, f2⟩, f3⟩, h⟩ := h
    obtain ⟨g, hgm, h⟩ := List.any_eq_true.mp h
    rw [Bool.and_eq_true, Bool.and_eq_true, Bool.and_eq_true] at h
    obtain ⟨⟨⟨g1, g2⟩, g3⟩, h⟩ := h
    obtain ⟨fo, fi, ft, fs, fc⟩ := f
    obtain ⟨go, gi, gt, gs, gc⟩ := g
    have f1' : fo = (60, 5, 0) := tk_veq.ok f1
    have f2' : fi = (1, 0, (b : Int)) := tk_veq.ok f2
    have f3' : ft = 1 := tk_bq f3
    have g1' : go = (61, 6, 0) := tk_veq.ok g1
    have g2' : gi = (1, 0, ((12 * b : Nat) : Int)) := tk_veq.ok g2
    have g3' : gt = 1 := tk_bq g3
    clear f1 f2 f3 g1 g2 g3
    subst f1' f2' f3' g1' g2' g3'
    have r0 : ρ 0 = 0 := by rw [← hag.2 0 (by omega)]; exact hz
    obtain ⟨x1, a1, a2, -, -⟩ := tl_int hM' hfm
    obtain ⟨x2, b1, b2, -, -⟩ := tl_int hM' hgm
    rw [hz, hag.2 5 (by omega), e5, Int.add_zero, Int.zero_add, Int.toNat_natCast] at a1
    rw [hz, hag.2 6 (by omega), e6, Int.add_zero, Int.zero_add, Int.toNat_natCast] at b1
    dsimp only at h
    rw [Bool.or_eq_true, Bool.or_eq_true] at h
    rcases h with (h | h) | h
    · rw [Bool.and_eq_true] at h
      have c1 := tk_con.eq h.1
      have c2 := of_decide_eq_true h.2
      have c3 := hE'.at (fs, fc)
      dsimp only at c3
      left
      rw [a1, show x1 = 0 from Int32.toInt_inj.mp (show x1.toInt = 0 by omega)]
    · rw [Bool.and_eq_true] at h
      have c1 := tk_con.eq h.1
      have c2 := of_decide_eq_true h.2
      have c3 := hE'.at (gs, gc)
      dsimp only at c3
      right
      rw [b1, show x2 = -1 from Int32.toInt_inj.mp (show x2.toInt = -1 by omega)]
    · obtain ⟨b0, hb0, h⟩ := List.any_eq_true.mp h
      rw [Bool.and_eq_true] at h
      obtain ⟨u, u1, u2⟩ := List.any_eq_true.mp h.1
      obtain ⟨v, v1, v2⟩ := List.any_eq_true.mp h.2
      have u2' := tl_veq3.ok u2
      have v2' := tl_veq3.ok v2
      clear u2 v2
      subst u2' v2'
      have hs1 := (hM _ u1).1.2.2
      have hs2 := (hM _ v1).1.2.2
      dsimp only at hs1 hs2
      obtain ⟨y1, c1, c2, -, -⟩ := tl_int hM u1
      obtain ⟨y2, d1, d2, -, -⟩ := tl_int hM v1
      rw [r0, e5, Int.add_zero, Int.zero_add, Int.toNat_natCast] at c1
      rw [r0, e6, Int.add_zero, Int.zero_add, Int.toNat_natCast] at d1
      rw [hag.2 _ hs1, ← c2] at a2
      rw [hag.2 _ hs2, ← d2] at b2
      have q1 := Int32.toInt_inj.mp a2
      have q2 := Int32.toInt_inj.mp b2
      subst q1 q2
      rcases hJ b0 (List.mem_range.mp hb0) with q | q
      · left
        rw [a1]
        rw [c1] at q
        exact q
      · right
        rw [b1]
        rw [d1] at q
        exact q
section TM
variable {p : Program} {l : Launch} {e : Env} {R : Room} {s : State} {m : MethodId} {args : Array Value} {below : List Frame} {meth : Method} {c : Code} {Q : State → Prop}
variable {D : va_G} {A : Nat → Prop} {H0 : Heap} {B0 : tk_B} {Ln : Nat} {xs : Nat → Int32} {nh : Nat} {ρh : Nat → Int}
variable {cs ss pc : Nat} {X : tm_X}
theorem tm_J.jc {k : tk_K} {j : tl_Y} {ts : List (tk_V × tk_V)} {cont : Nat → tm_X → Bool} (hC : tm_C p R s m args c A H0 B0 Ln xs) (hr : cs ≤ (tk_Tmi tt_T 0).2.2.1 ∧ ss ≤ (tk_Tmi tt_T 0).2.2.2.1) (hcon : ty_Con l D A k (tl_JP j) (tl_JZ j)) (h : tm_jc k j ts cont pc X = true) (kk : ∀ X', cont (pc + 3) X' = true → tm_J p l e R s m args below meth c Q D A H0 B0 Ln xs nh ρh cs ss (pc + 3) X') : tm_J p l e R s m args below meth c Q D A H0 B0 Ln xs nh ρh cs ss pc X := by
  unfold tm_jc at h
  split at h
  · rename_i r hcl
    simp only [Bool.and_eq_true] at h
    obtain ⟨⟨⟨hz, hsb⟩, h10'⟩, hall⟩ := h
    have h10' := Nat.le_of_ble_eq_true h10'
    obtain ⟨s1, s2, s3⟩ := of_decide_eq_true hsb
    unfold tm_z at hz
    rw [Bool.and_eq_true] at hz
    have z1 := tk_bq hz.1
    have z2 := tk_bq hz.2
    intro ρ B ws tys H locs ls lv st hG
    obtain ⟨hk, hg, h10, hsc, hv⟩ := id hG
    have key : ∀ ρ1 : Nat → Int, tk_ag X.1.length ρ r.1.length ρ1 → tk_rw 1 r.2.2.1 ρ1 j.1 = ρh 7 ∧ tk_rw 1 r.2.2.1 ρ1 j.2.1 = ρh 8 ∧ tk_rw 1 r.2.2.1 ρ1 j.2.2 = ρh 9 := fun ρ1 hg1 => by
      have e1 := (tk_sb.ok (ρ := ρ1) s1).1
      have e2 := (tk_sb.ok (ρ := ρ1) s2).1
      have e3 := (tk_sb.ok (ρ := ρ1) s3).1
      dsimp only at e1 e2 e3
      rw [Int.add_zero, Int.add_zero, hg1.2 7 (by omega), hg.2 7 (by omega)] at e1
      rw [Int.add_zero, Int.add_zero, hg1.2 8 (by omega), hg.2 8 (by omega)] at e2
      rw [Int.add_zero, Int.add_zero, hg1.2 9 (by omega), hg.2 9 (by omega)] at e3
      exact ⟨e1, e2, e3⟩
    refine tm_J.call tm_T0 hC hcon hcl (by rw [z1]; exact hr.1) (by rw [z2]; exact hr.2) hG (fun ρ1 hg1 _ => ?_) (fun w X' hw ρ1 ρ' B' ws' tys' H' locs' st' hk' hg1 hE1 hM1 hg' hsc' hf' hZ => ?_)
    · obtain ⟨e1, e2, e3⟩ := key ρ1 hg1
      show tl_J2 ws _ _ _
      rw [e1, e2, e3]
      exact hv.2.2
    · obtain ⟨e1, e2, e3⟩ := key ρ1 hg1
      rw [z1, z2] at hk' ⊢
      have hw2 := List.all_eq_true.mp hall _ hw
      rw [Bool.and_eq_true] at hw2
      have hJ2 : tl_J2 ws' _ _ _ := hZ
      rw [e1, e2, e3] at hJ2
      have h1 := List.all_eq_true.mp hw2.1
      refine kk X' hw2.2 ρ' B' ws' tys' H' locs' ls lv st' ⟨hk', (hg.tr hg1).tr hg', h10, hsc', hv.1, fun b hb => ?_, hJ2⟩
      exact tm_j1b.ok (h1 b (List.mem_range.mpr hb)) hv.2.1 hv.1.1.1 hv.1.1.2 hb hf' hM1 hk'.2.2.2.2.2.1 hk'.1 hk'.2.1.2 hg' (Nat.le_trans h10' hg1.1) (by rw [hg1.2 5 (by omega), hg.2 5 (by omega)]) (by rw [hg1.2 6 (by omega), hg.2 6 (by omega)])
  · cases h
theorem tm_J.lc1 {k : tk_K} {f : tk_V × tk_V × tk_V} {cont : Nat → tm_X → Bool} (hC : tm_C p R s m args c A H0 B0 Ln xs) (hr : cs ≤ (tk_Tmi tt_T 0).2.2.1 ∧ ss ≤ (tk_Tmi tt_T 0).2.2.2.1) (hcon : tx_Con l D A k) (h : tm_lc1 k f cont pc X = true) (kk : ∀ X', cont (pc + 3) X' = true → tm_J p l e R s m args below meth c Q D A H0 B0 Ln xs nh ρh cs ss (pc + 3) X')
    {ρ : Nat → Int} {B : tk_B} {ws : va_W} {tys : List (ClassId × FieldType)} {H : Heap} {locs : List Loc} {ls : Array Slot} {lv : List (Nat × Value)} {st : List Value} (hG : tm_G D A s H0 B0 Ln xs nh ρh X cs ss ρ B ws tys H locs ls lv st) (hf : (f.1.2.1 < X.1.length ∧ f.2.1.2.1 < X.1.length ∧ f.2.2.2.1 < X.1.length) ∧ tk_fa B ws f.1.1 (ρ f.1.2.1 + f.1.2.2) (ρ f.2.1.2.1 + f.2.1.2.2) f.2.2.1 (ρ f.2.2.2.1 + f.2.2.2.2)) : W p l e R s m args below meth c H locs cs ss Q (F0 m pc ls st) := by
  unfold tm_lc1 at h
  split at h
  · rename_i r hcl
    simp only [Bool.and_eq_true] at h
    obtain ⟨⟨hz, hfar⟩, hall⟩ := h
    unfold tm_z at hz
    rw [Bool.and_eq_true] at hz
    have z1 := tk_bq hz.1
    have z2 := tk_bq hz.2
    obtain ⟨⟨hE, h0, hL, hl, hst, hMm, hrest⟩, hg, h10, hsc, hv⟩ := id hG
    have hG' : tm_G D A s H0 B0 Ln xs nh ρh (X.1, X.2.1, X.2.2.1, f :: X.2.2.2.1, X.2.2.2.2) cs ss ρ B ws tys H locs ls lv st := ⟨⟨hE, h0, hL, hl, hst, tk_mem.cons hf hMm, hrest⟩, hg, h10, hsc, hv⟩
    refine tm_J.call tm_T0 hC (tl_of hcon) hcl (by rw [z1]; exact hr.1) (by rw [z2]; exact hr.2) hG' (fun _ _ _ => trivial) (fun w X' hw ρ1 ρ' B' ws' tys' H' locs' st' hk' hg1 hE1 hM1 hg' hsc' hf' _ => ?_)
    rw [z1, z2] at hk' ⊢
    exact kk X' (List.all_eq_true.mp hall _ hw) ρ' B' ws' tys' H' locs' ls lv st' ⟨hk', (hg.tr hg1).tr hg', h10, hsc', hv.far hf' hfar⟩
  · cases h
theorem tm_J.lc {kZ kU : tk_K} {cont : Nat → tm_X → Bool} (hC : tm_C p R s m args c A H0 B0 Ln xs) (hr : cs ≤ (tk_Tmi tt_T 0).2.2.1 ∧ ss ≤ (tk_Tmi tt_T 0).2.2.2.1) (hconZ : tx_Con l D A kZ) (hconU : tx_Con l D A kU) (h : tm_lc kZ kU cont pc X = true) (kk : ∀ X', cont (pc + 3) X' = true → tm_J p l e R s m args below meth c Q D A H0 B0 Ln xs nh ρh cs ss (pc + 3) X') : tm_J p l e R s m args below meth c Q D A H0 B0 Ln xs nh ρh cs ss pc X := by
  unfold tm_lc at h
  simp only [Bool.and_eq_true] at h
  obtain ⟨⟨h10', hZ⟩, hU⟩ := h
  have h10' := Nat.le_of_ble_eq_true h10'
  intro ρ B ws tys H locs ls lv st hG
  obtain ⟨hk, hg, h10, hsc, hv⟩ := id hG
  have hz : ρ 0 = 0 := hk.2.1.2
  have hCC := hk.2.2.2.2.2.2.2.2.2.2.1
  have hle : tk_le B0 B := hk.2.2.2.2.2.2.2.2.2.2.2.2.1
  rcases hv.2.1 0 (by omega) with q | q
  · refine tm_J.lc1 hC hr hconZ hZ kk hG ⟨⟨by dsimp only; omega, by dsimp only; omega, by dsimp only; omega⟩, ?_⟩
    dsimp only
    rw [hz, hg.2 5 (by omega), Int.add_zero, Int.add_zero]
    exact tm_fact (κ := 50) (i := 0) hCC (hv.1.1.1.up hle) q ⟨0, rfl, rfl⟩
  · refine tm_J.lc1 hC hr hconU hU kk hG ⟨⟨by dsimp only; omega, by dsimp only; omega, by dsimp only; omega⟩, ?_⟩
    dsimp only
    rw [hz, hg.2 6 (by omega), Int.add_zero, Int.add_zero]
    exact tm_fact (κ := 51) (i := 0) hCC (hv.1.1.2.up hle) q ⟨-1, rfl, rfl⟩
theorem tm_J.rc {T : tk_T} {k : tk_K} {cont : tm_K} {dc ds : Nat} (hT : tm_T T l D A) (hC : tm_C p R s m args c A H0 B0 Ln xs) (hr : cs ≤ 100000 ∧ ss ≤ 8000000) (hcon : tk_Con T tw_U tw_Ts tw_NWs tw_TXs (tx_St A) l D tw_cl A k) (h : tm_rc T k cont dc ds pc X = true) (kk : ∀ dc' ds' X', cont dc' ds' (pc + 3) X' = true → tm_J p l e R s m args below meth c Q D A H0 B0 Ln xs nh ρh (cs + dc') (ss + ds') (pc + 3) X') : tm_J p l e R s m args below meth c Q D A H0 B0 Ln xs nh ρh (cs + dc) (ss + ds) pc X := by
  unfold tm_rc at h
  split at h
  · rename_i r hcl
    simp only [Bool.and_eq_true] at h
    obtain ⟨⟨⟨hfar, r1⟩, r2⟩, hall⟩ := h
    have r1 := Nat.le_of_ble_eq_true r1
    have r2 := Nat.le_of_ble_eq_true r2
    have m1 : (tk_Tmi tt_T 0).2.2.1 = 137232 := rfl
    have m2 : (tk_Tmi tt_T 0).2.2.2.1 = 8690554 := rfl
    intro ρ B ws tys H locs ls lv st hG
    obtain ⟨hk, hg, h10, hsc, hv⟩ := id hG
    refine tm_J.call hT hC (tl_of hcon) hcl (by omega) (by omega) hG (fun _ _ _ => trivial) (fun w X' hw ρ1 ρ' B' ws' tys' H' locs' st' hk' hg1 hE1 hM1 hg' hsc' hf' _ => ?_)
    rw [Nat.add_assoc, Nat.add_assoc] at hk' ⊢
    exact kk _ _ X' (List.all_eq_true.mp hall _ hw) ρ' B' ws' tys' H' locs' ls lv st' ⟨hk', (hg.tr hg1).tr hg', h10, hsc', hv.far hf' hfar⟩
  · cases h
theorem tm_J.ac {k : tk_K} {cont : tm_K} {dc ds : Nat} (hC : tm_C p R s m args c A H0 B0 Ln xs) (hr : cs ≤ 100000 ∧ ss ≤ 8000000) (hcon : ty_Con l D A k (fun _ _ _ => True) ty_RZ) (h : tm_ac k cont dc ds pc X = true) (kk : ∀ dc' ds' X', cont dc' ds' (pc + 3) X' = true → tm_J p l e R s m args below meth c Q D A H0 B0 Ln xs nh ρh (cs + dc') (ss + ds') (pc + 3) X') : tm_J p l e R s m args below meth c Q D A H0 B0 Ln xs nh ρh (cs + dc) (ss + ds) pc X := by
  unfold tm_ac at h
  split at h
  · rename_i r hcl
    simp only [Bool.and_eq_true] at h
    obtain ⟨⟨⟨hfar, r1⟩, r2⟩, hall⟩ := h
    have r1 := Nat.le_of_ble_eq_true r1
    have r2 := Nat.le_of_ble_eq_true r2
    have m1 : (tk_Tmi tt_T 0).2.2.1 = 137232 := rfl
    have m2 : (tk_Tmi tt_T 0).2.2.2.1 = 8690554 := rfl
    intro ρ B ws tys H locs ls lv st hG
    obtain ⟨hk, hg, h10, hsc, hv⟩ := id hG
    refine tl_W.with (fun hrm => ?_)
    refine tm_J.call tm_T0 hC hcon hcl (by omega) (by omega) hG (fun _ _ _ => trivial) (fun w X' hw ρ1 ρ' B' ws' tys' H' locs' st' hk' hg1 hE1 hM1 hg' hsc' hf' hZ => ?_)
    have hw2 := List.all_eq_true.mp hall _ hw
    simp only [Bool.and_eq_true] at hw2
    obtain ⟨⟨w1, w2⟩, w3⟩ := hw2
    have w1 := Nat.le_of_ble_eq_true w1
    have w2 := Nat.le_of_ble_eq_true w2
    have hZ : tl_rm H H' w.2.2.2.2.1.1 w.2.2.2.2.1.2.toNat := hZ
    have hrm2 : tl_rm s.heap H' (cs + (dc + (tk_Tmi tt_T k.1).2.2.1)) (ss + (ds + w.2.2.2.2.1.2.toNat)) := (hrm.tr hZ).mono (by omega) (by omega)
    refine tl_W.tight hrm2 ?_
    rw [Nat.add_assoc, Nat.add_assoc] at hk'
    have hk2 : tk_ok D tw_cl A s H0 (tk_TKT tt_T) [] B0 ws' (tk_Tmi tt_T 0).1 (tm_S X' (cs + (dc + (tk_Tmi tt_T k.1).2.2.1)) (ss + (ds + w.2.2.2.2.1.2.toNat))) ρ' B' ws' tys' H' locs' ls lv st' := hk'
    exact kk _ _ X' w3 ρ' B' ws' tys' H' locs' ls lv st' ⟨hk2, (hg.tr hg1).tr hg', h10, hsc', hv.far hf' hfar⟩
  · cases h
end TM
