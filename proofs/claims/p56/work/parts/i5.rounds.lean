theorem tm_cat {α : Type} {f : α → Bool} {l : List α} {m : Nat} (h : ∀ i, i < m → ((l.drop i).take 1).all f = true) (h2 : ((l.drop m).take 70).all f = true) (hl : l.length ≤ 70) : l.all f = true := by
  refine List.all_eq_true.mpr (fun q hq => ?_)
  obtain ⟨j, hj⟩ := List.getElem?_of_mem hq
  have hlt : j < l.length := (List.getElem?_eq_some_iff.mp hj).1
  by_cases hm : j < m
  · refine List.all_eq_true.mp (h j hm) q (List.mem_of_getElem? (i := 0) ?_)
    rw [List.getElem?_take, if_pos (by decide), List.getElem?_drop, Nat.add_zero]
    exact hj
  · refine List.all_eq_true.mp h2 q (List.mem_of_getElem? (i := j - m) ?_)
    rw [List.getElem?_take, if_pos (by omega), List.getElem?_drop, show m + (j - m) = j by omega]
    exact hj
theorem tm_f0 : tm_few false false = true := by decide +kernel
theorem tm_a0 : ∀ n, n < 10 → tm_pc false false n 1 = true := fun n hn => by
  match n, hn with
  | 0, _ => exact tm_a0_0
  | 1, _ => exact tm_a0_1
  | 2, _ => exact tm_a0_2
  | 3, _ => exact tm_a0_3
  | 4, _ => exact tm_a0_4
  | 5, _ => exact tm_a0_5
  | 6, _ => exact tm_a0_6
  | 7, _ => exact tm_a0_7
  | 8, _ => exact tm_a0_8
  | 9, _ => exact tm_a0_9
  | n + 10, hn => omega
theorem tm_f1 : tm_few false true = true := by decide +kernel
theorem tm_a1 : ∀ n, n < 10 → tm_pc false true n 1 = true := fun n hn => by
  match n, hn with
  | 0, _ => exact tm_a1_0
  | 1, _ => exact tm_a1_1
  | 2, _ => exact tm_a1_2
  | 3, _ => exact tm_a1_3
  | 4, _ => exact tm_a1_4
  | 5, _ => exact tm_a1_5
  | 6, _ => exact tm_a1_6
  | 7, _ => exact tm_a1_7
  | 8, _ => exact tm_a1_8
  | 9, _ => exact tm_a1_9
  | n + 10, hn => omega
theorem tm_f2 : tm_few true false = true := by decide +kernel
theorem tm_a2 : ∀ n, n < 10 → tm_pc true false n 1 = true := fun n hn => by
  match n, hn with
  | 0, _ => exact tm_a2_0
  | 1, _ => exact tm_a2_1
  | 2, _ => exact tm_a2_2
  | 3, _ => exact tm_a2_3
  | 4, _ => exact tm_a2_4
  | 5, _ => exact tm_a2_5
  | 6, _ => exact tm_a2_6
  | 7, _ => exact tm_a2_7
  | 8, _ => exact tm_a2_8
  | 9, _ => exact tm_a2_9
  | n + 10, hn => omega
theorem tm_f3 : tm_few true true = true := by decide +kernel
theorem tm_a3 : ∀ n, n < 10 → tm_pc true true n 1 = true := fun n hn => by
  match n, hn with
  | 0, _ => exact tm_a3_0
  | 1, _ => exact tm_a3_1
  | 2, _ => exact tm_a3_2
  | 3, _ => exact tm_a3_3
  | 4, _ => exact tm_a3_4
  | 5, _ => exact tm_a3_5
  | 6, _ => exact tm_a3_6
  | 7, _ => exact tm_a3_7
  | 8, _ => exact tm_a3_8
  | 9, _ => exact tm_a3_9
  | n + 10, hn => omega
theorem tm_aw {b d : Bool} (hf : tm_few b d = true) (h : ∀ n, n < 10 → tm_pc b d n 1 = true) (h2 : tm_pc b d 10 70 = true) : tm_all b d = true := by
  unfold tm_few at hf
  unfold tm_pc at h h2
  unfold tm_all
  split at hf
  · rename_i ns hns
    rw [hns] at h h2
    exact tm_cat h h2 (Nat.le_of_ble_eq_true hf)
  · cases hf
theorem tm_aa : ∀ b d : Bool, tm_all b d = true
  | false, false => tm_aw tm_f0 tm_a0 tm_a0_10
  | false, true => tm_aw tm_f1 tm_a1 tm_a1_10
  | true, false => tm_aw tm_f2 tm_a2 tm_a2_10
  | true, true => tm_aw tm_f3 tm_a3 tm_a3_10
