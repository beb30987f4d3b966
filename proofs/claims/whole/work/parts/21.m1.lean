/-! LEAVES -/
theorem kx_l0 {c : Prop} [Decidable c] (h : ¬ c) : (some (Value.int 0)) = some (.int (kx_b c)) := by rw [kx_b_neg h]
theorem kx_l1 {c : Prop} [Decidable c] (h : c) : (some (Value.int 1)) = some (.int (kx_b c)) := by rw [kx_b_pos h]
set_option maxRecDepth 100000 in
theorem ev_within {E : kv_V} {d : Nat} {g : kv_S} {w : kv_W} (v m : Int32) : kv_ev E (d + 1) 124 [.int v, .int m] (kv_wd g w) (some (.int (kx_b (0 ≤ v ∧ v ≤ m)))) (kv_wd g w) := by
  refine kx_ev (d := d + 0) (by decide) (Nat.le_of_ble_eq_true rfl) ?_
  refine kx_st 0 (pc' := 0) (L' := [some (.int v), some (.int m)]) (st' := []) (h' := kv_wd g w) rfl ?_
  refine kx_st 1 (pc' := 1) (L' := [some (.int v), some (.int m)]) (st' := [.int v]) (h' := kv_wd g w) rfl ?_
  refine kx_bc (t := 13) rfl rfl (fun (h1 : v < 0) => ?_) (fun (h1 : ¬ (v < 0)) => ?_)
  · refine kx_st 1 (pc' := 14) (L' := [some (.int v), some (.int m)]) (st' := [.int 0]) (h' := kv_wd g w) rfl ?_
    refine kx_ret (v := some (.int 0)) rfl ?_
    exact ⟨kx_l0 (by simp only [Int32.lt_iff_toInt_lt, Int32.le_iff_toInt_le] at *; omega), rfl⟩
  · refine kx_st 0 (pc' := 4) (L' := [some (.int v), some (.int m)]) (st' := []) (h' := kv_wd g w) rfl ?_
    refine kx_st 2 (pc' := 6) (L' := [some (.int v), some (.int m)]) (st' := [.int m, .int v]) (h' := kv_wd g w) rfl ?_
    refine kx_bi (t := 13) rfl rfl (fun (h6 : m < v) => ?_) (fun (h6 : ¬ (m < v)) => ?_)
    · refine kx_st 1 (pc' := 14) (L' := [some (.int v), some (.int m)]) (st' := [.int 0]) (h' := kv_wd g w) rfl ?_
      refine kx_ret (v := some (.int 0)) rfl ?_
      exact ⟨kx_l0 (by simp only [Int32.lt_iff_toInt_lt, Int32.le_iff_toInt_le] at *; omega), rfl⟩
    · refine kx_st 0 (pc' := 9) (L' := [some (.int v), some (.int m)]) (st' := []) (h' := kv_wd g w) rfl ?_
      refine kx_st 2 (pc' := 14) (L' := [some (.int v), some (.int m)]) (st' := [.int 1]) (h' := kv_wd g w) rfl ?_
      refine kx_ret (v := some (.int 1)) rfl ?_
      exact ⟨kx_l1 (by simp only [Int32.lt_iff_toInt_lt, Int32.le_iff_toInt_le] at *; omega), rfl⟩
set_option maxRecDepth 100000 in
theorem ev_in {E : kv_V} {d : Nat} {g : kv_S} {w : kv_W} (v a b : Int32) : kv_ev E (d + 1) 130 [.int v, .int a, .int b] (kv_wd g w) (some (.int (kx_b (a ≤ v ∧ v ≤ b)))) (kv_wd g w) := by
  refine kx_ev (d := d + 0) (by decide) (Nat.le_of_ble_eq_true rfl) ?_
  refine kx_st 0 (pc' := 0) (L' := [some (.int v), some (.int a), some (.int b)]) (st' := []) (h' := kv_wd g w) rfl ?_
  refine kx_st 2 (pc' := 2) (L' := [some (.int v), some (.int a), some (.int b)]) (st' := [.int a, .int v]) (h' := kv_wd g w) rfl ?_
  refine kx_bi (t := 14) rfl rfl (fun (h2 : v < a) => ?_) (fun (h2 : ¬ (v < a)) => ?_)
  · refine kx_st 1 (pc' := 15) (L' := [some (.int v), some (.int a), some (.int b)]) (st' := [.int 0]) (h' := kv_wd g w) rfl ?_
    refine kx_ret (v := some (.int 0)) rfl ?_
    exact ⟨kx_l0 (by simp only [Int32.lt_iff_toInt_lt, Int32.le_iff_toInt_le] at *; omega), rfl⟩
  · refine kx_st 0 (pc' := 5) (L' := [some (.int v), some (.int a), some (.int b)]) (st' := []) (h' := kv_wd g w) rfl ?_
    refine kx_st 2 (pc' := 7) (L' := [some (.int v), some (.int a), some (.int b)]) (st' := [.int b, .int v]) (h' := kv_wd g w) rfl ?_
    refine kx_bi (t := 14) rfl rfl (fun (h7 : b < v) => ?_) (fun (h7 : ¬ (b < v)) => ?_)
    · refine kx_st 1 (pc' := 15) (L' := [some (.int v), some (.int a), some (.int b)]) (st' := [.int 0]) (h' := kv_wd g w) rfl ?_
      refine kx_ret (v := some (.int 0)) rfl ?_
      exact ⟨kx_l0 (by simp only [Int32.lt_iff_toInt_lt, Int32.le_iff_toInt_le] at *; omega), rfl⟩
    · refine kx_st 0 (pc' := 10) (L' := [some (.int v), some (.int a), some (.int b)]) (st' := []) (h' := kv_wd g w) rfl ?_
      refine kx_st 2 (pc' := 15) (L' := [some (.int v), some (.int a), some (.int b)]) (st' := [.int 1]) (h' := kv_wd g w) rfl ?_
      refine kx_ret (v := some (.int 1)) rfl ?_
      exact ⟨kx_l1 (by simp only [Int32.lt_iff_toInt_lt, Int32.le_iff_toInt_le] at *; omega), rfl⟩
