theorem tm_cat {α : Type} {f : α → Bool} {l : List α} {k m : Nat} (hk : 0 < k) (h : ∀ i, i < m → ((l.drop (k * i)).take k).all f = true) (hl : l.length ≤ k * m) : l.all f = true := by
  refine List.all_eq_true.mpr (fun q hq => ?_)
  obtain ⟨j, hj⟩ := List.getElem?_of_mem hq
  have hlt : j < l.length := (List.getElem?_eq_some_iff.mp hj).1
  have hdm : k * (j / k) + j % k = j := Nat.div_add_mod j k
  have hmod : j % k < k := Nat.mod_lt _ hk
  have hi : j / k < m := Nat.div_lt_of_lt_mul (by omega)
  have h1 := h (j / k) hi
  refine List.all_eq_true.mp h1 q (List.mem_of_getElem? (i := j % k) ?_)
  rw [List.getElem?_take, if_pos hmod, List.getElem?_drop, hdm]
  exact hj
theorem tm_f0 : tm_few false false = true := by decide +kernel
theorem tm_a0 : ∀ n, n < 5 → tm_pc false false n = true := fun n hn => by
  match n, hn with
  | 0, _ => exact tm_a0_0
  | 1, _ => exact tm_a0_1
  | 2, _ => exact tm_a0_2
  | 3, _ => exact tm_a0_3
  | 4, _ => exact tm_a0_4
  | n + 5, hn => omega
theorem tm_f1 : tm_few false true = true := by decide +kernel
theorem tm_a1 : ∀ n, n < 5 → tm_pc false true n = true := fun n hn => by
  match n, hn with
  | 0, _ => exact tm_a1_0
  | 1, _ => exact tm_a1_1
  | 2, _ => exact tm_a1_2
  | 3, _ => exact tm_a1_3
  | 4, _ => exact tm_a1_4
  | n + 5, hn => omega
theorem tm_f2 : tm_few true false = true := by decide +kernel
theorem tm_a2 : ∀ n, n < 5 → tm_pc true false n = true := fun n hn => by
  match n, hn with
  | 0, _ => exact tm_a2_0
  | 1, _ => exact tm_a2_1
  | 2, _ => exact tm_a2_2
  | 3, _ => exact tm_a2_3
  | 4, _ => exact tm_a2_4
  | n + 5, hn => omega
theorem tm_f3 : tm_few true true = true := by decide +kernel
theorem tm_a3 : ∀ n, n < 5 → tm_pc true true n = true := fun n hn => by
  match n, hn with
  | 0, _ => exact tm_a3_0
  | 1, _ => exact tm_a3_1
  | 2, _ => exact tm_a3_2
  | 3, _ => exact tm_a3_3
  | 4, _ => exact tm_a3_4
  | n + 5, hn => omega
theorem tm_aw {b d : Bool} (hf : tm_few b d = true) (h : ∀ n, n < 5 → tm_pc b d n = true) : tm_all b d = true := by
  unfold tm_few at hf
  unfold tm_pc at h
  unfold tm_all
  split at hf
  · rename_i ns hns
    rw [hns] at h ⊢
    exact tm_cat (k := 12) (m := 5) (by decide) h (Nat.le_of_ble_eq_true hf)
  · cases hf
theorem tm_aa : ∀ b d : Bool, tm_all b d = true
  | false, false => tm_aw tm_f0 tm_a0
  | false, true => tm_aw tm_f1 tm_a1
  | true, false => tm_aw tm_f2 tm_a2
  | true, true => tm_aw tm_f3 tm_a3
