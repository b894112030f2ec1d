section TW
variable {T : tk_T} {U : kc_U} {Ts : List Jvm.Cond} {NWs : List (String × Nat × MethodName × String)} {TXs : List (String × Nat × String × Nat)} {St : (Nat → Nat) → State → Heap → Prop} {sc nt : Nat} {Ks : Nat → Option tk_K} {nw : Nat → Nat × Nat × Nat × Nat}
variable {l : Launch} {D : va_G} {cl : List vw_C} {A : Nat → Prop} {F : List (Nat × Nat × Nat)}
set_option maxHeartbeats 8000000 in
/-- what the executor runs to, the machine comes to -/
theorem tk_run.ok (hV : tk_TV T U cl Ts TXs) (hLV : tk_LV T U Ts NWs) (hG : GoodIn Ts Ts) (hSc : tk_Sc A St) (hTx : ∀ (s : State) (H : Heap) (ad : Nat → Nat), tk_Dx NWs TXs St ad s H → ∀ k, k < nt → ∃ cell : Cell, H[ad k]? = some cell ∧ cell.vm.isStatics = false ∧ s.vm.findClass (U.1 sc) = some cell.cls) (hKs : ∀ (id : Nat) (k : tk_K), Ks id = some k → tk_Con T U Ts NWs TXs St l D cl A k) (hNV : tk_NV T U Ts NWs TXs St l D cl A nw) :
    ∀ (f y : Nat) (op : List Nat) (tp tp' : List tk_I) (todo outs outs' : List (Nat × tk_S)), tk_run T F sc nt Ks nw f y op tp todo outs = some (outs', tp') → ∀ (p : Program) (e : Env) (R : Room) (s : State) (m : MethodId) (args : Array Value) (below : List Frame) (meth : Method) (c : Code) (Q : State → Prop) (H0 : Heap) (B0 : tk_B) (ws0 : va_W) (nA : Nat) (ρ0 : Nat → Int), tk_Cx T U Ts NWs TXs St y p R s m args meth c A H0 B0 nA ρ0 →
    (∀ o ∈ outs', tk_J p l e R s m args below meth c Q D cl A H0 (tk_TKT T) F B0 ws0 (tk_Tmi T y).1 nA ρ0 o.1 o.2) → (∀ o ∈ todo, tk_J p l e R s m args below meth c Q D cl A H0 (tk_TKT T) F B0 ws0 (tk_Tmi T y).1 nA ρ0 o.1 o.2) ∧ ∀ o ∈ outs, tk_J p l e R s m args below meth c Q D cl A H0 (tk_TKT T) F B0 ws0 (tk_Tmi T y).1 nA ρ0 o.1 o.2
  | 0, _, _, _, _, _, _, _, h => by
    unfold tk_run at h
    cases h
  | f + 1, y, op, tp, tp', [], outs, outs', h => by
    unfold tk_run at h
    cases h
    intro p e R s m args below meth c Q H0 B0 ws0 nA ρ0 hX ho
    exact ⟨fun o h => absurd h List.not_mem_nil, ho⟩
  | f + 1, y, op, tp, tp', q :: rest, outs, outs', h => by
    intro p e R s m args below meth c Q H0 B0 ws0 nA ρ0 hX ho
    have IH := tk_run.ok hV hLV hG hSc hTx hKs hNV f
    have cons : ∀ {P : Nat × tk_S → Prop}, P q → (∀ o ∈ rest, P o) → ∀ o ∈ q :: rest, P o := fun h1 h2 o h3 => by
      rcases List.mem_cons.mp h3 with rfl | h3
      · exact h1
      · exact h2 o h3
    unfold tk_run at h
    split at h
    · obtain ⟨g1, g2⟩ := IH y op tp tp' rest (q :: outs) outs' h p e R s m args below meth c Q H0 B0 ws0 nA ρ0 hX ho
      exact ⟨cons (g2 q List.mem_cons_self) g1, fun o h1 => g2 o (List.mem_cons_of_mem _ h1)⟩
    · split at h
      · rename_i ws tp1 hh
        split at h
        · rename_i hc0
          rw [Bool.and_eq_true] at hc0
          split at h
          · rename_i z hz
            split at h
            · rename_i hall
              obtain ⟨g1, g2⟩ := IH y op z.2 tp' rest _ outs' h p e R s m args below meth c Q H0 B0 ws0 nA ρ0 hX ho
              refine ⟨cons ?_ g1, fun o h3 => g2 o (List.mem_append.mpr (Or.inr h3))⟩
              have hex := tk_lps.ok hz
              classical
              let os : tk_A → List (Nat × tk_S) := fun w => if hw : w ∈ ws then Classical.choose (hex w hw) else []
              have hos : ∀ w ∈ ws, ∃ t1 t2 : List tk_I, (w, os w) ∈ z.1 ∧ (match tk_one T F sc nt Ks nw y q.1 (tk_wS q.2 w) t1 with
                | some (.inr (.inl ns), tp2) => tk_run T F sc nt Ks nw f y (q.1 :: op) tp2 ns []
                | _ => none) = some (os w, t2) := fun w hw => by
                have h9 := Classical.choose_spec (hex w hw)
                have e9 : os w = Classical.choose (hex w hw) := dif_pos hw
                rw [e9]
                exact h9
              refine tk_J.loop (ws := ws) (os := os) hc0.1 (fun w hw => List.all_eq_true.mp hc0.2 w hw) (fun w hw o h3 h4 => ?_) (fun w hw o h3 h4 => ?_) (fun w hw ρ1 hg hJ => ?_)
              · obtain ⟨t1, t2, h5, -⟩ := hos w hw
                have h6 := List.all_eq_true.mp (List.all_eq_true.mp hall _ h5) o h3
                rw [Bool.or_eq_true] at h6
                rcases h6 with h6 | h6
                · exact absurd h4 (of_decide_eq_true h6)
                · exact h6
              · obtain ⟨t1, t2, h5, -⟩ := hos w hw
                exact g2 o (List.mem_append.mpr (Or.inl (List.mem_flatMap.mpr ⟨_, h5, List.mem_filter.mpr ⟨h3, decide_eq_true h4⟩⟩)))
              · obtain ⟨t1, t2, -, h6⟩ := hos w hw
                split at h6
                · rename_i ns tp2 hone
                  have hX2 := hX.mono hg
                  exact tk_one.ok hV hLV hG hSc hTx hKs hNV hX2 hone (IH y (q.1 :: op) tp2 t2 ns [] (os w) h6 p e R s m args below meth c Q H0 B0 ws0 _ ρ1 hX2 hJ).1
                · cases h6
            · cases h
          · cases h
        · cases h
      · rename_i tp1 hh
        split at h
        · obtain ⟨g1, g2⟩ := IH y op _ tp' rest (q :: outs) outs' h p e R s m args below meth c Q H0 B0 ws0 nA ρ0 hX ho
          exact ⟨cons (g2 q List.mem_cons_self) g1, fun o h1 => g2 o (List.mem_cons_of_mem _ h1)⟩
        · rename_i ns tp2 hone
          obtain ⟨g1, g2⟩ := IH y op tp2 tp' _ outs outs' h p e R s m args below meth c Q H0 B0 ws0 nA ρ0 hX ho
          exact ⟨cons (tk_one.ok hV hLV hG hSc hTx hKs hNV hX hone (fun o h3 => g1 o (List.mem_append.mpr (Or.inl h3)))) (fun o h3 => g1 o (List.mem_append.mpr (Or.inr h3))), g2⟩
        · rename_i y' as K' tp2 hone
          obtain ⟨i, n, hc, hcal⟩ := tk_one.inl hone
          split at h
          · rename_i z hz
            obtain ⟨g1, g2⟩ := IH y op z.2 tp' _ outs outs' h p e R s m args below meth c Q H0 B0 ws0 nA ρ0 hX ho
            refine ⟨cons ?_ (fun o h3 => g1 o (List.mem_append.mpr (Or.inr h3))), g2⟩
            refine tk_J.inl (os := z.1) hV hLV hG hSc hTx hX hc hcal (fun p e s m args below meth c Q H B ws ρ hCx hos => (IH y' [] tp2 z.2 _ [] z.1 hz p e (tk_rm T y') s m args below meth c Q H B ws _ ρ hCx hos).1 _ List.mem_cons_self) (fun o h3 => ?_) (fun ρ hE hz0 hg o h3 => (g1 _ (List.mem_append.mpr (Or.inl (List.mem_map.mpr ⟨o, h3, rfl⟩)))).mono hg)
            rcases tk_run.outs f y' [] tp2 z.2 _ [] z.1 hz (fun o h => by cases h) o h3 with h4 | h4
            · cases h4
            · exact h4
          · cases h
        · rename_i y' as K' ws tp2 hone
          obtain ⟨i, n, hc, hcal⟩ := tk_one.inl hone
          split at h
          · rename_i z hz
            split at h
            · rename_i hall
              obtain ⟨g1, g2⟩ := IH y op z.2 tp' _ outs outs' h p e R s m args below meth c Q H0 B0 ws0 nA ρ0 hX ho
              refine ⟨cons ?_ (fun o h3 => g1 o (List.mem_append.mpr (Or.inr h3))), g2⟩
              refine tk_J.inl (os := z.1) hV hLV hG hSc hTx hX hc hcal (fun p e s m args below meth c Q H B ws ρ hCx hos => (IH y' [] tp2 z.2 _ [] z.1 hz p e (tk_rm T y') s m args below meth c Q H B ws _ ρ hCx hos).1 _ List.mem_cons_self) (fun o h3 => ?_) (fun ρ hE hz0 hg o h3 => ?_)
              · rcases tk_run.outs f y' [] tp2 z.2 _ [] z.1 hz (fun o h => by cases h) o h3 with h4 | h4
                · cases h4
                · exact h4
              · exact tk_J.join (ws := ws) hE rfl hz0 (List.all_eq_true.mp hall o h3) (fun w hw => (g1 _ (List.mem_append.mpr (Or.inl (List.mem_map.mpr ⟨w, hw, rfl⟩)))).mono hg)
            · cases h
          · cases h
        · cases h
      · cases h
end TW
