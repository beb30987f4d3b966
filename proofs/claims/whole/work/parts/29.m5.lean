/-! PUBLIC CALLS: seed, told, year, tell, trace -/
set_option maxRecDepth 100000 in
theorem ev_x_seed {E : kv_V} {d : Nat} {g : kv_S} {w : kv_W} (v : Int32) : kv_ev E (d + 1) 109 [.ref 0, .int v] (kv_wd g w) (some (.int (g 1 11))) (kv_wd (kv_up g 1 11 v) w) := by
  refine kx_ev (d := d + 0) (by decide) (Nat.le_of_ble_eq_true rfl) ?_
  refine kx_st 0 (pc' := 0) (L' := [some (.ref 0), some (.int v), none]) (st' := []) (h' := kv_wd g w) rfl ?_
  refine kx_st 7 (pc' := 13) (L' := [some (.ref 0), some (.int v), some (.int (g 1 11))]) (st' := [.int v, .ref 1]) (h' := kv_wd g w) rfl ?_
  refine kx_pf (i := 269) (k := 11) (x := v) rfl rfl (by decide) rfl (Nat.le_of_ble_eq_true rfl) rfl rfl rfl ?_
  refine kx_st 1 (pc' := 17) (L' := [some (.ref 0), some (.int v), some (.int (g 1 11))]) (st' := [.int (g 1 11)]) (h' := kv_wd (kv_up g 1 11 v) w) rfl ?_
  refine kx_ret (v := some (.int (g 1 11))) rfl ?_
  exact ⟨rfl, rfl⟩
set_option maxRecDepth 100000 in
theorem ev_m_seed {E : kv_V} {d : Nat} {g : kv_S} {w : kv_W} (v : Int32) : kv_ev E (d + 1) 202 [.ref 65, .int v] (kv_wd g w) (some (.int (g 66 1))) (kv_wd (kv_up g 66 1 v) w) := by
  refine kx_ev (d := d + 0) (by decide) (Nat.le_of_ble_eq_true rfl) ?_
  refine kx_st 0 (pc' := 0) (L' := [some (.ref 65), some (.int v), none]) (st' := []) (h' := kv_wd g w) rfl ?_
  refine kx_st 3 (pc' := 5) (L' := [some (.ref 65), some (.int v), none]) (st' := [.int 1, .ref 66]) (h' := kv_wd g w) rfl ?_
  refine kx_ia (k := 1) rfl rfl (by decide) rfl (by decide) (by decide) ?_
  refine kx_st 5 (pc' := 13) (L' := [some (.ref 65), some (.int v), some (.int (g 66 1))]) (st' := [.int v, .int 1, .ref 66]) (h' := kv_wd g w) rfl ?_
  refine kx_is (k := 1) rfl rfl (by decide) rfl (by decide) (by decide) ?_
  refine kx_st 1 (pc' := 15) (L' := [some (.ref 65), some (.int v), some (.int (g 66 1))]) (st' := [.int (g 66 1)]) (h' := kv_wd (kv_up g 66 1 v) w) rfl ?_
  refine kx_ret (v := some (.int (g 66 1))) rfl ?_
  exact ⟨rfl, rfl⟩
set_option maxRecDepth 100000 in
theorem ev_x_told {E : kv_V} {d : Nat} {g : kv_S} {w : kv_W} (k : Nat) (h1 : 1 ≤ k) (h5 : k ≤ 5) : kv_ev E (d + 2) 122 [.ref 0, .int (nI k)] (kv_wd g w) (some (.int (g 64 k))) (kv_wd g w) := by
  refine kx_ev (d := d + 1) (by decide) (Nat.le_of_ble_eq_true rfl) ?_
  refine kx_st 0 (pc' := 0) (L' := [some (.ref 0), some (.int (nI k))]) (st' := []) (h' := kv_wd g w) rfl ?_
  refine kx_st 2 (pc' := 2) (L' := [some (.ref 0), some (.int (nI k))]) (st' := [.int 1, .int (nI k)]) (h' := kv_wd g w) rfl ?_
  refine kx_bi (t := 10) rfl rfl (fun (h2 : nI k < 1) => ?_) (fun (h2 : ¬ (nI k < 1)) => ?_)
  · exact absurd h2 (nI_nlt (a := k) (b := 1) (by omega) (by omega))
  · refine kx_st 0 (pc' := 5) (L' := [some (.ref 0), some (.int (nI k))]) (st' := []) (h' := kv_wd g w) rfl ?_
    refine kx_st 2 (pc' := 7) (L' := [some (.ref 0), some (.int (nI k))]) (st' := [.int 5, .int (nI k)]) (h' := kv_wd g w) rfl ?_
    refine kx_bi (t := 16) rfl rfl (fun (h7 : nI k ≤ 5) => ?_) (fun (h7 : ¬ (nI k ≤ 5)) => ?_)
    · refine kx_st 3 (pc' := 21) (L' := [some (.ref 0), some (.int (nI k))]) (st' := [.int (nI k), .ref 64]) (h' := kv_wd g w) rfl ?_
      refine kx_ia (k := k) rfl rfl (by decide) rfl (by omega) (by decide) ?_
      refine kx_ret (v := some (.int (g 64 k))) rfl ?_
      exact ⟨rfl, rfl⟩
    · exact absurd (nI_le (a := k) (b := 5) (by omega) (by omega)) h7
set_option maxRecDepth 100000 in
theorem ev_x_told_e {E : kv_V} {d : Nat} {g : kv_S} {w : kv_W} (v : Int32) (hv : ¬ (1 ≤ v ∧ v ≤ 5)) : kv_ev E (d + 2) 122 [.ref 0, .int v] (kv_wd g w) (some (.int (-1000000000 - nI 1))) (kv_wd (kv_up g 64 1 (g 64 1 + 1)) w) := by
  refine kx_ev (d := d + 1) (by decide) (Nat.le_of_ble_eq_true rfl) ?_
  refine kx_st 0 (pc' := 0) (L' := [some (.ref 0), some (.int v)]) (st' := []) (h' := kv_wd g w) rfl ?_
  refine kx_st 2 (pc' := 2) (L' := [some (.ref 0), some (.int v)]) (st' := [.int 1, .int v]) (h' := kv_wd g w) rfl ?_
  refine kx_bi (t := 10) rfl rfl (fun (h2 : v < 1) => ?_) (fun (h2 : ¬ (v < 1)) => ?_)
  · refine kx_st 2 (pc' := 12) (L' := [some (.ref 0), some (.int v)]) (st' := [.int 1, .ref 0]) (h' := kv_wd g w) rfl ?_
    refine kx_call (z := 123) (as := [.ref 0, .int 1]) (rest := []) (v := some (.int (-1000000000 - nI 1))) (h1 := kv_wd (kv_up g 64 1 (g 64 1 + 1)) w) rfl (ev_error (d := d) 1 (by decide) (by decide)) ?_
    refine kx_st 0 (pc' := 15) (L' := [some (.ref 0), some (.int v)]) (st' := [.int (-1000000000 - nI 1)]) (h' := kv_wd (kv_up g 64 1 (g 64 1 + 1)) w) rfl ?_
    refine kx_ret (v := some (.int (-1000000000 - nI 1))) rfl ?_
    exact ⟨rfl, rfl⟩
  · refine kx_st 0 (pc' := 5) (L' := [some (.ref 0), some (.int v)]) (st' := []) (h' := kv_wd g w) rfl ?_
    refine kx_st 2 (pc' := 7) (L' := [some (.ref 0), some (.int v)]) (st' := [.int 5, .int v]) (h' := kv_wd g w) rfl ?_
    refine kx_bi (t := 16) rfl rfl (fun (h7 : v ≤ 5) => ?_) (fun (h7 : ¬ (v ≤ 5)) => ?_)
    · exact absurd ⟨Int32.not_lt.mp h2, h7⟩ hv
    · refine kx_st 0 (pc' := 10) (L' := [some (.ref 0), some (.int v)]) (st' := []) (h' := kv_wd g w) rfl ?_
      refine kx_st 2 (pc' := 12) (L' := [some (.ref 0), some (.int v)]) (st' := [.int 1, .ref 0]) (h' := kv_wd g w) rfl ?_
      refine kx_call (z := 123) (as := [.ref 0, .int 1]) (rest := []) (v := some (.int (-1000000000 - nI 1))) (h1 := kv_wd (kv_up g 64 1 (g 64 1 + 1)) w) rfl (ev_error (d := d) 1 (by decide) (by decide)) ?_
      refine kx_st 0 (pc' := 15) (L' := [some (.ref 0), some (.int v)]) (st' := [.int (-1000000000 - nI 1)]) (h' := kv_wd (kv_up g 64 1 (g 64 1 + 1)) w) rfl ?_
      refine kx_ret (v := some (.int (-1000000000 - nI 1))) rfl ?_
      exact ⟨rfl, rfl⟩
set_option maxRecDepth 100000 in
theorem ev_m_told {E : kv_V} {d : Nat} {g : kv_S} {w : kv_W} (k : Nat) (h1 : 1 ≤ k) (h5 : k ≤ 5) : kv_ev E (d + 2) 221 [.ref 65, .int (nI k)] (kv_wd g w) (some (.int (g 70 k))) (kv_wd g w) := by
  refine kx_ev (d := d + 1) (by decide) (Nat.le_of_ble_eq_true rfl) ?_
  refine kx_st 0 (pc' := 0) (L' := [some (.ref 65), some (.int (nI k))]) (st' := []) (h' := kv_wd g w) rfl ?_
  refine kx_st 3 (pc' := 3) (L' := [some (.ref 65), some (.int (nI k))]) (st' := [.int 5, .int 1, .int (nI k)]) (h' := kv_wd g w) rfl ?_
  refine kx_call (z := 130) (as := [.int (nI k), .int 1, .int 5]) (rest := []) (v := some (.int (kx_b (1 ≤ nI k ∧ nI k ≤ 5)))) (h1 := kv_wd g w) rfl (ev_in (d := d) (nI k) 1 5) ?_
  refine kx_st 0 (pc' := 6) (L' := [some (.ref 65), some (.int (nI k))]) (st' := [.int (kx_b (1 ≤ nI k ∧ nI k ≤ 5))]) (h' := kv_wd g w) rfl ?_
  refine kx_be (t := 18) rfl rfl (fun (h6 : ¬ (1 ≤ nI k ∧ nI k ≤ 5)) => ?_) (fun (h6 : (1 ≤ nI k ∧ nI k ≤ 5)) => ?_)
  · exact absurd ⟨nI_le (a := 1) (b := k) (by omega) (by omega), nI_le (a := k) (b := 5) (by omega) (by omega)⟩ h6
  · refine kx_st 0 (pc' := 9) (L' := [some (.ref 65), some (.int (nI k))]) (st' := []) (h' := kv_wd g w) rfl ?_
    refine kx_st 3 (pc' := 14) (L' := [some (.ref 65), some (.int (nI k))]) (st' := [.int (nI k), .ref 70]) (h' := kv_wd g w) rfl ?_
    refine kx_ia (k := k) rfl rfl (by decide) rfl (by omega) (by decide) ?_
    refine kx_st 1 (pc' := 24) (L' := [some (.ref 65), some (.int (nI k))]) (st' := [.int (g 70 k)]) (h' := kv_wd g w) rfl ?_
    refine kx_ret (v := some (.int (g 70 k))) rfl ?_
    exact ⟨rfl, rfl⟩
set_option maxRecDepth 100000 in
theorem ev_m_told_e {E : kv_V} {d : Nat} {g : kv_S} {w : kv_W} (v : Int32) (hv : ¬ (1 ≤ v ∧ v ≤ 5)) : kv_ev E (d + 2) 221 [.ref 65, .int v] (kv_wd g w) (some (.int (-1000000001))) (kv_wd (kv_up g 70 1 (g 70 1 + 1)) w) := by
  refine kx_ev (d := d + 1) (by decide) (Nat.le_of_ble_eq_true rfl) ?_
  refine kx_st 0 (pc' := 0) (L' := [some (.ref 65), some (.int v)]) (st' := []) (h' := kv_wd g w) rfl ?_
  refine kx_st 3 (pc' := 3) (L' := [some (.ref 65), some (.int v)]) (st' := [.int 5, .int 1, .int v]) (h' := kv_wd g w) rfl ?_
  refine kx_call (z := 130) (as := [.int v, .int 1, .int 5]) (rest := []) (v := some (.int (kx_b (1 ≤ v ∧ v ≤ 5)))) (h1 := kv_wd g w) rfl (ev_in (d := d) v 1 5) ?_
  refine kx_st 0 (pc' := 6) (L' := [some (.ref 65), some (.int v)]) (st' := [.int (kx_b (1 ≤ v ∧ v ≤ 5))]) (h' := kv_wd g w) rfl ?_
  refine kx_be (t := 18) rfl rfl (fun (h6 : ¬ (1 ≤ v ∧ v ≤ 5)) => ?_) (fun (h6 : (1 ≤ v ∧ v ≤ 5)) => ?_)
  · refine kx_st 2 (pc' := 21) (L' := [some (.ref 65), some (.int v)]) (st' := [.int (-1000000001), .ref 65]) (h' := kv_wd g w) rfl ?_
    refine kx_call (z := 131) (as := [.ref 65, .int (-1000000001)]) (rest := []) (v := some (.int (-1000000001))) (h1 := kv_wd (kv_up g 70 1 (g 70 1 + 1)) w) rfl (ev_errs (d := d) (-1000000001) 1 (by decide) (by decide)) ?_
    refine kx_st 0 (pc' := 24) (L' := [some (.ref 65), some (.int v)]) (st' := [.int (-1000000001)]) (h' := kv_wd (kv_up g 70 1 (g 70 1 + 1)) w) rfl ?_
    refine kx_ret (v := some (.int (-1000000001))) rfl ?_
    exact ⟨rfl, rfl⟩
  · exact absurd h6 hv
set_option maxRecDepth 100000 in
theorem ev_x_year {E : kv_V} {d : Nat} {g : kv_S} {w : kv_W} (v : Int32) (hv : 0 ≤ v ∧ v ≤ 999) : kv_ev E (d + 2) 95 [.ref 0, .int v] (kv_wd g w) (some (.int (g 2 2))) (kv_wd (kv_up g 2 2 v) w) := by
  refine kx_ev (d := d + 1) (by decide) (Nat.le_of_ble_eq_true rfl) ?_
  refine kx_st 0 (pc' := 0) (L' := [some (.ref 0), some (.int v), none]) (st' := []) (h' := kv_wd g w) rfl ?_
  refine kx_st 2 (pc' := 4) (L' := [some (.ref 0), some (.int v), none]) (st' := [.int 999, .int v]) (h' := kv_wd g w) rfl ?_
  refine kx_call (z := 124) (as := [.int v, .int 999]) (rest := []) (v := some (.int (kx_b (0 ≤ v ∧ v ≤ 999)))) (h1 := kv_wd g w) rfl (ev_within (d := d) v 999) ?_
  refine kx_st 0 (pc' := 7) (L' := [some (.ref 0), some (.int v), none]) (st' := [.int (kx_b (0 ≤ v ∧ v ≤ 999))]) (h' := kv_wd g w) rfl ?_
  refine kx_bn (t := 16) rfl rfl (fun (h7 : (0 ≤ v ∧ v ≤ 999)) => ?_) (fun (h7 : ¬ (0 ≤ v ∧ v ≤ 999)) => ?_)
  · refine kx_st 9 (pc' := 35) (L' := [some (.ref 0), some (.int v), some (.int (g 2 2))]) (st' := [.int v, .ref 2]) (h' := kv_wd g w) rfl ?_
    refine kx_pf (i := 128) (k := 2) (x := v) rfl rfl (by decide) rfl (Nat.le_of_ble_eq_true rfl) rfl rfl rfl ?_
    refine kx_st 1 (pc' := 39) (L' := [some (.ref 0), some (.int v), some (.int (g 2 2))]) (st' := [.int (g 2 2)]) (h' := kv_wd (kv_up g 2 2 v) w) rfl ?_
    refine kx_ret (v := some (.int (g 2 2))) rfl ?_
    exact ⟨rfl, rfl⟩
  · exact absurd hv h7
set_option maxRecDepth 100000 in
theorem ev_x_year_e {E : kv_V} {d : Nat} {g : kv_S} {w : kv_W} (v : Int32) (hv : ¬ (0 ≤ v ∧ v ≤ 999)) : kv_ev E (d + 2) 95 [.ref 0, .int v] (kv_wd g w) (some (.int (-1000000000 - nI 1))) (kv_wd (kv_up g 64 1 (g 64 1 + 1)) w) := by
  refine kx_ev (d := d + 1) (by decide) (Nat.le_of_ble_eq_true rfl) ?_
  refine kx_st 0 (pc' := 0) (L' := [some (.ref 0), some (.int v), none]) (st' := []) (h' := kv_wd g w) rfl ?_
  refine kx_st 2 (pc' := 4) (L' := [some (.ref 0), some (.int v), none]) (st' := [.int 999, .int v]) (h' := kv_wd g w) rfl ?_
  refine kx_call (z := 124) (as := [.int v, .int 999]) (rest := []) (v := some (.int (kx_b (0 ≤ v ∧ v ≤ 999)))) (h1 := kv_wd g w) rfl (ev_within (d := d) v 999) ?_
  refine kx_st 0 (pc' := 7) (L' := [some (.ref 0), some (.int v), none]) (st' := [.int (kx_b (0 ≤ v ∧ v ≤ 999))]) (h' := kv_wd g w) rfl ?_
  refine kx_bn (t := 16) rfl rfl (fun (h7 : (0 ≤ v ∧ v ≤ 999)) => ?_) (fun (h7 : ¬ (0 ≤ v ∧ v ≤ 999)) => ?_)
  · exact absurd h7 hv
  · refine kx_st 0 (pc' := 10) (L' := [some (.ref 0), some (.int v), none]) (st' := []) (h' := kv_wd g w) rfl ?_
    refine kx_st 2 (pc' := 12) (L' := [some (.ref 0), some (.int v), none]) (st' := [.int 1, .ref 0]) (h' := kv_wd g w) rfl ?_
    refine kx_call (z := 123) (as := [.ref 0, .int 1]) (rest := []) (v := some (.int (-1000000000 - nI 1))) (h1 := kv_wd (kv_up g 64 1 (g 64 1 + 1)) w) rfl (ev_error (d := d) 1 (by decide) (by decide)) ?_
    refine kx_st 0 (pc' := 15) (L' := [some (.ref 0), some (.int v), none]) (st' := [.int (-1000000000 - nI 1)]) (h' := kv_wd (kv_up g 64 1 (g 64 1 + 1)) w) rfl ?_
    refine kx_ret (v := some (.int (-1000000000 - nI 1))) rfl ?_
    exact ⟨rfl, rfl⟩
set_option maxRecDepth 100000 in
theorem ev_m_year {E : kv_V} {d : Nat} {g : kv_S} {w : kv_W} (v : Int32) (hv : 0 ≤ v ∧ v ≤ 999) : kv_ev E (d + 2) 184 [.ref 65, .int v] (kv_wd g w) (some (.int (g 66 0))) (kv_wd (kv_up g 66 0 v) w) := by
  refine kx_ev (d := d + 1) (by decide) (Nat.le_of_ble_eq_true rfl) ?_
  refine kx_st 0 (pc' := 0) (L' := [some (.ref 65), some (.int v)]) (st' := []) (h' := kv_wd g w) rfl ?_
  refine kx_st 3 (pc' := 5) (L' := [some (.ref 65), some (.int v)]) (st' := [.int 999, .int 0, .int v]) (h' := kv_wd g w) rfl ?_
  refine kx_call (z := 130) (as := [.int v, .int 0, .int 999]) (rest := []) (v := some (.int (kx_b (0 ≤ v ∧ v ≤ 999)))) (h1 := kv_wd g w) rfl (ev_in (d := d) v 0 999) ?_
  refine kx_st 0 (pc' := 8) (L' := [some (.ref 65), some (.int v)]) (st' := [.int (kx_b (0 ≤ v ∧ v ≤ 999))]) (h' := kv_wd g w) rfl ?_
  refine kx_be (t := 20) rfl rfl (fun (h8 : ¬ (0 ≤ v ∧ v ≤ 999)) => ?_) (fun (h8 : (0 ≤ v ∧ v ≤ 999)) => ?_)
  · exact absurd hv h8
  · refine kx_st 0 (pc' := 11) (L' := [some (.ref 65), some (.int v)]) (st' := []) (h' := kv_wd g w) rfl ?_
    refine kx_st 3 (pc' := 14) (L' := [some (.ref 65), some (.int v)]) (st' := [.int v, .int 0, .ref 65]) (h' := kv_wd g w) rfl ?_
    refine kx_call (z := 142) (as := [.ref 65, .int 0, .int v]) (rest := []) (v := some (.int (g 66 0))) (h1 := kv_wd (kv_up g 66 0 v) w) rfl (ev_becomes (d := d) 0 (by omega) v) ?_
    refine kx_st 0 (pc' := 17) (L' := [some (.ref 65), some (.int v)]) (st' := [.int (g 66 0)]) (h' := kv_wd (kv_up g 66 0 v) w) rfl ?_
    refine kx_st 1 (pc' := 26) (L' := [some (.ref 65), some (.int v)]) (st' := [.int (g 66 0)]) (h' := kv_wd (kv_up g 66 0 v) w) rfl ?_
    refine kx_ret (v := some (.int (g 66 0))) rfl ?_
    exact ⟨rfl, rfl⟩
set_option maxRecDepth 100000 in
theorem ev_m_year_e {E : kv_V} {d : Nat} {g : kv_S} {w : kv_W} (v : Int32) (hv : ¬ (0 ≤ v ∧ v ≤ 999)) : kv_ev E (d + 2) 184 [.ref 65, .int v] (kv_wd g w) (some (.int (-1000000001))) (kv_wd (kv_up g 70 1 (g 70 1 + 1)) w) := by
  refine kx_ev (d := d + 1) (by decide) (Nat.le_of_ble_eq_true rfl) ?_
  refine kx_st 0 (pc' := 0) (L' := [some (.ref 65), some (.int v)]) (st' := []) (h' := kv_wd g w) rfl ?_
  refine kx_st 3 (pc' := 5) (L' := [some (.ref 65), some (.int v)]) (st' := [.int 999, .int 0, .int v]) (h' := kv_wd g w) rfl ?_
  refine kx_call (z := 130) (as := [.int v, .int 0, .int 999]) (rest := []) (v := some (.int (kx_b (0 ≤ v ∧ v ≤ 999)))) (h1 := kv_wd g w) rfl (ev_in (d := d) v 0 999) ?_
  refine kx_st 0 (pc' := 8) (L' := [some (.ref 65), some (.int v)]) (st' := [.int (kx_b (0 ≤ v ∧ v ≤ 999))]) (h' := kv_wd g w) rfl ?_
  refine kx_be (t := 20) rfl rfl (fun (h8 : ¬ (0 ≤ v ∧ v ≤ 999)) => ?_) (fun (h8 : (0 ≤ v ∧ v ≤ 999)) => ?_)
  · refine kx_st 2 (pc' := 23) (L' := [some (.ref 65), some (.int v)]) (st' := [.int (-1000000001), .ref 65]) (h' := kv_wd g w) rfl ?_
    refine kx_call (z := 131) (as := [.ref 65, .int (-1000000001)]) (rest := []) (v := some (.int (-1000000001))) (h1 := kv_wd (kv_up g 70 1 (g 70 1 + 1)) w) rfl (ev_errs (d := d) (-1000000001) 1 (by decide) (by decide)) ?_
    refine kx_st 0 (pc' := 26) (L' := [some (.ref 65), some (.int v)]) (st' := [.int (-1000000001)]) (h' := kv_wd (kv_up g 70 1 (g 70 1 + 1)) w) rfl ?_
    refine kx_ret (v := some (.int (-1000000001))) rfl ?_
    exact ⟨rfl, rfl⟩
  · exact absurd h8 hv
set_option maxRecDepth 100000 in
theorem ev_x_tell {E : kv_V} {d : Nat} {g : kv_S} {w : kv_W} (v : Int32) (n : Nat) (hn : g 1 10 = nI n) (h : n < 20) : kv_ev E (d + 2) 119 [.ref 0, .int v] (kv_wd g w) (some (.int (g 1 10 + 1))) (kv_wd (kv_up (kv_up g 13 n v) 1 10 (g 1 10 + 1)) w) := by
  refine kx_ev (d := d + 1) (by decide) (Nat.le_of_ble_eq_true rfl) ?_
  refine kx_st 0 (pc' := 0) (L' := [some (.ref 0), some (.int v)]) (st' := []) (h' := kv_wd g w) rfl ?_
  refine kx_st 4 (pc' := 9) (L' := [some (.ref 0), some (.int v)]) (st' := [.int 20, .int (g 1 10)]) (h' := kv_wd g w) rfl ?_
  refine kx_bi (t := 18) rfl rfl (fun (h9 : g 1 10 < 20) => ?_) (fun (h9 : ¬ (g 1 10 < 20)) => ?_)
  · refine kx_st 7 (pc' := 33) (L' := [some (.ref 0), some (.int v)]) (st' := [.int v, .int (g 1 10), .ref 13]) (h' := kv_wd g w) rfl ?_
    refine kx_is (k := n) rfl rfl (by decide) hn (by omega) (by decide) ?_
    refine kx_st 6 (pc' := 44) (L' := [some (.ref 0), some (.int v)]) (st' := [.int (((kv_up g 13 n v) 1 10) + 1), .ref 1]) (h' := kv_wd (kv_up g 13 n v) w) rfl ?_
    refine kx_pf (i := 303) (k := 10) (x := (((kv_up g 13 n v) 1 10) + 1)) rfl rfl (by decide) rfl (Nat.le_of_ble_eq_true rfl) rfl rfl rfl ?_
    refine kx_st 3 (pc' := 54) (L' := [some (.ref 0), some (.int v)]) (st' := [.int ((kv_up (kv_up g 13 n v) 1 10 (((kv_up g 13 n v) 1 10) + 1)) 1 10)]) (h' := kv_wd (kv_up (kv_up g 13 n v) 1 10 (((kv_up g 13 n v) 1 10) + 1)) w) rfl ?_
    refine kx_ret (v := some (.int ((kv_up (kv_up g 13 n v) 1 10 (((kv_up g 13 n v) 1 10) + 1)) 1 10))) rfl ?_
    exact ⟨rfl, rfl⟩
  · exact absurd (by rw [hn]; exact nI_lt (a := n) (b := 20) h (by omega)) h9
set_option maxRecDepth 100000 in
theorem ev_x_tell_e {E : kv_V} {d : Nat} {g : kv_S} {w : kv_W} (v : Int32) (hn : g 1 10 = 20) : kv_ev E (d + 2) 119 [.ref 0, .int v] (kv_wd g w) (some (.int (-1000000000 - nI 4))) (kv_wd (kv_up g 64 4 (g 64 4 + 1)) w) := by
  refine kx_ev (d := d + 1) (by decide) (Nat.le_of_ble_eq_true rfl) ?_
  refine kx_st 0 (pc' := 0) (L' := [some (.ref 0), some (.int v)]) (st' := []) (h' := kv_wd g w) rfl ?_
  refine kx_st 4 (pc' := 9) (L' := [some (.ref 0), some (.int v)]) (st' := [.int 20, .int (g 1 10)]) (h' := kv_wd g w) rfl ?_
  refine kx_bi (t := 18) rfl rfl (fun (h9 : g 1 10 < 20) => ?_) (fun (h9 : ¬ (g 1 10 < 20)) => ?_)
  · exact absurd h9 (by rw [hn]; decide)
  · refine kx_st 0 (pc' := 12) (L' := [some (.ref 0), some (.int v)]) (st' := []) (h' := kv_wd g w) rfl ?_
    refine kx_st 2 (pc' := 14) (L' := [some (.ref 0), some (.int v)]) (st' := [.int 4, .ref 0]) (h' := kv_wd g w) rfl ?_
    refine kx_call (z := 123) (as := [.ref 0, .int 4]) (rest := []) (v := some (.int (-1000000000 - nI 4))) (h1 := kv_wd (kv_up g 64 4 (g 64 4 + 1)) w) rfl (ev_error (d := d) 4 (by decide) (by decide)) ?_
    refine kx_st 0 (pc' := 17) (L' := [some (.ref 0), some (.int v)]) (st' := [.int (-1000000000 - nI 4)]) (h' := kv_wd (kv_up g 64 4 (g 64 4 + 1)) w) rfl ?_
    refine kx_ret (v := some (.int (-1000000000 - nI 4))) rfl ?_
    exact ⟨rfl, rfl⟩
set_option maxRecDepth 100000 in
theorem ev_m_tell {E : kv_V} {d : Nat} {g : kv_S} {w : kv_W} (v : Int32) (n : Nat) (hn : g 66 5 = nI n) (h : n < 20) : kv_ev E (d + 2) 218 [.ref 65, .int v] (kv_wd g w) (some (.int (g 66 5 + 1))) (kv_wd (kv_up (kv_up g 66 (148 + n) v) 66 5 (g 66 5 + 1)) w) := by
  refine kx_ev (d := d + 1) (by decide) (Nat.le_of_ble_eq_true rfl) ?_
  refine kx_st 0 (pc' := 0) (L' := [some (.ref 65), some (.int v)]) (st' := []) (h' := kv_wd g w) rfl ?_
  refine kx_st 3 (pc' := 5) (L' := [some (.ref 65), some (.int v)]) (st' := [.int 5, .ref 66]) (h' := kv_wd g w) rfl ?_
  refine kx_ia (k := 5) rfl rfl (by decide) rfl (by decide) (by decide) ?_
  refine kx_st 1 (pc' := 8) (L' := [some (.ref 65), some (.int v)]) (st' := [.int 20, .int (g 66 5)]) (h' := kv_wd g w) rfl ?_
  refine kx_bi (t := 18) rfl rfl (fun (h8 : ¬ g 66 5 = 20) => ?_) (fun (h8 : ¬ (¬ g 66 5 = 20)) => ?_)
  · refine kx_st 6 (pc' := 30) (L' := [some (.ref 65), some (.int v)]) (st' := [.int 5, .ref 66, .int 148, .ref 66]) (h' := kv_wd g w) rfl ?_
    refine kx_ia (k := 5) rfl rfl (by decide) rfl (by decide) (by decide) ?_
    refine kx_st 2 (pc' := 33) (L' := [some (.ref 65), some (.int v)]) (st' := [.int v, .int (148 + (g 66 5)), .ref 66]) (h' := kv_wd g w) rfl ?_
    refine kx_is (k := (148 + n)) rfl rfl (by decide) (by rw [hn]; exact kx_nadd 148 n) (by omega) (by decide) ?_
    refine kx_st 4 (pc' := 40) (L' := [some (.ref 65), some (.int v)]) (st' := [.int 5, .ref 66, .int 5, .ref 66]) (h' := kv_wd (kv_up g 66 (148 + n) v) w) rfl ?_
    refine kx_ia (k := 5) rfl rfl (by decide) rfl (by decide) (by decide) ?_
    refine kx_st 2 (pc' := 43) (L' := [some (.ref 65), some (.int v)]) (st' := [.int (((kv_up g 66 (148 + n) v) 66 5) + 1), .int 5, .ref 66]) (h' := kv_wd (kv_up g 66 (148 + n) v) w) rfl ?_
    refine kx_is (k := 5) rfl rfl (by decide) rfl (by decide) (by decide) ?_
    refine kx_st 3 (pc' := 49) (L' := [some (.ref 65), some (.int v)]) (st' := [.int 5, .ref 66]) (h' := kv_wd (kv_up (kv_up g 66 (148 + n) v) 66 5 (((kv_up g 66 (148 + n) v) 66 5) + 1)) w) rfl ?_
    refine kx_ia (k := 5) rfl rfl (by decide) rfl (by decide) (by decide) ?_
    refine kx_ret (v := some (.int ((kv_up (kv_up g 66 (148 + n) v) 66 5 (((kv_up g 66 (148 + n) v) 66 5) + 1)) 66 5))) rfl ?_
    have e0 : kv_up g 66 (148 + n) v 66 5 = g 66 5 := by show upd (g 66) (148 + n) v 5 = _; unfold upd; rw [if_neg (by omega)]
    exact ⟨by rw [e0]; rfl, by rw [e0]⟩
  · exact absurd (Classical.not_not.mp h8) (by rw [hn]; exact fun q => absurd (show nI n = nI 20 from q) (fun z => by have := congrArg Int32.toInt z; rw [nI_toInt (by omega), nI_toInt (by omega)] at this; omega))
set_option maxRecDepth 100000 in
theorem ev_m_tell_e {E : kv_V} {d : Nat} {g : kv_S} {w : kv_W} (v : Int32) (hn : g 66 5 = 20) : kv_ev E (d + 2) 218 [.ref 65, .int v] (kv_wd g w) (some (.int (-1000000004))) (kv_wd (kv_up g 70 4 (g 70 4 + 1)) w) := by
  refine kx_ev (d := d + 1) (by decide) (Nat.le_of_ble_eq_true rfl) ?_
  refine kx_st 0 (pc' := 0) (L' := [some (.ref 65), some (.int v)]) (st' := []) (h' := kv_wd g w) rfl ?_
  refine kx_st 3 (pc' := 5) (L' := [some (.ref 65), some (.int v)]) (st' := [.int 5, .ref 66]) (h' := kv_wd g w) rfl ?_
  refine kx_ia (k := 5) rfl rfl (by decide) rfl (by decide) (by decide) ?_
  refine kx_st 1 (pc' := 8) (L' := [some (.ref 65), some (.int v)]) (st' := [.int 20, .int (g 66 5)]) (h' := kv_wd g w) rfl ?_
  refine kx_bi (t := 18) rfl rfl (fun (h8 : ¬ g 66 5 = 20) => ?_) (fun (h8 : ¬ (¬ g 66 5 = 20)) => ?_)
  · exact absurd hn h8
  · refine kx_st 0 (pc' := 11) (L' := [some (.ref 65), some (.int v)]) (st' := []) (h' := kv_wd g w) rfl ?_
    refine kx_st 2 (pc' := 14) (L' := [some (.ref 65), some (.int v)]) (st' := [.int (-1000000004), .ref 65]) (h' := kv_wd g w) rfl ?_
    refine kx_call (z := 131) (as := [.ref 65, .int (-1000000004)]) (rest := []) (v := some (.int (-1000000004))) (h1 := kv_wd (kv_up g 70 4 (g 70 4 + 1)) w) rfl (ev_errs (d := d) (-1000000004) 4 (by decide) (by decide)) ?_
    refine kx_st 0 (pc' := 17) (L' := [some (.ref 65), some (.int v)]) (st' := [.int (-1000000004)]) (h' := kv_wd (kv_up g 70 4 (g 70 4 + 1)) w) rfl ?_
    refine kx_ret (v := some (.int (-1000000004))) rfl ?_
    exact ⟨rfl, rfl⟩
set_option maxRecDepth 100000 in
theorem ev_x_trace {E : kv_V} {d : Nat} {g : kv_S} {w : kv_W} (k n : Nat) (hn : g 53 1 = nI n) (h : k < n) (hm : n ≤ 40) : kv_ev E (d + 2) 111 [.ref 0, .int (nI k)] (kv_wd g w) (some (.int (g 54 k))) (kv_wd g w) := by
  refine kx_ev (d := d + 1) (by decide) (Nat.le_of_ble_eq_true rfl) ?_
  refine kx_st 0 (pc' := 0) (L' := [some (.ref 0), some (.int (nI k))]) (st' := []) (h' := kv_wd g w) rfl ?_
  refine kx_st 1 (pc' := 1) (L' := [some (.ref 0), some (.int (nI k))]) (st' := [.int (nI k)]) (h' := kv_wd g w) rfl ?_
  refine kx_bc (t := 15) rfl rfl (fun (h1 : nI k < 0) => ?_) (fun (h1 : ¬ (nI k < 0)) => ?_)
  · exact absurd h1 (nI_pos (by omega))
  · refine kx_st 0 (pc' := 4) (L' := [some (.ref 0), some (.int (nI k))]) (st' := []) (h' := kv_wd g w) rfl ?_
    refine kx_st 4 (pc' := 12) (L' := [some (.ref 0), some (.int (nI k))]) (st' := [.int (g 53 1), .int (nI k)]) (h' := kv_wd g w) rfl ?_
    refine kx_bi (t := 21) rfl rfl (fun (h12 : nI k < g 53 1) => ?_) (fun (h12 : ¬ (nI k < g 53 1)) => ?_)
    · refine kx_st 4 (pc' := 29) (L' := [some (.ref 0), some (.int (nI k))]) (st' := [.int (nI k), .ref 54]) (h' := kv_wd g w) rfl ?_
      refine kx_ia (k := k) rfl rfl (by decide) rfl (by omega) (by decide) ?_
      refine kx_ret (v := some (.int (g 54 k))) rfl ?_
      exact ⟨rfl, rfl⟩
    · exact absurd (by rw [hn]; exact nI_lt h (by omega)) h12
set_option maxRecDepth 100000 in
theorem ev_x_trace_e {E : kv_V} {d : Nat} {g : kv_S} {w : kv_W} (v : Int32) (hv : ¬ (0 ≤ v ∧ v < g 53 1)) : kv_ev E (d + 2) 111 [.ref 0, .int v] (kv_wd g w) (some (.int (-1000000000 - nI 2))) (kv_wd (kv_up g 64 2 (g 64 2 + 1)) w) := by
  refine kx_ev (d := d + 1) (by decide) (Nat.le_of_ble_eq_true rfl) ?_
  refine kx_st 0 (pc' := 0) (L' := [some (.ref 0), some (.int v)]) (st' := []) (h' := kv_wd g w) rfl ?_
  refine kx_st 1 (pc' := 1) (L' := [some (.ref 0), some (.int v)]) (st' := [.int v]) (h' := kv_wd g w) rfl ?_
  refine kx_bc (t := 15) rfl rfl (fun (h1 : v < 0) => ?_) (fun (h1 : ¬ (v < 0)) => ?_)
  · refine kx_st 2 (pc' := 17) (L' := [some (.ref 0), some (.int v)]) (st' := [.int 2, .ref 0]) (h' := kv_wd g w) rfl ?_
    refine kx_call (z := 123) (as := [.ref 0, .int 2]) (rest := []) (v := some (.int (-1000000000 - nI 2))) (h1 := kv_wd (kv_up g 64 2 (g 64 2 + 1)) w) rfl (ev_error (d := d) 2 (by decide) (by decide)) ?_
    refine kx_st 0 (pc' := 20) (L' := [some (.ref 0), some (.int v)]) (st' := [.int (-1000000000 - nI 2)]) (h' := kv_wd (kv_up g 64 2 (g 64 2 + 1)) w) rfl ?_
    refine kx_ret (v := some (.int (-1000000000 - nI 2))) rfl ?_
    exact ⟨rfl, rfl⟩
  · refine kx_st 0 (pc' := 4) (L' := [some (.ref 0), some (.int v)]) (st' := []) (h' := kv_wd g w) rfl ?_
    refine kx_st 4 (pc' := 12) (L' := [some (.ref 0), some (.int v)]) (st' := [.int (g 53 1), .int v]) (h' := kv_wd g w) rfl ?_
    refine kx_bi (t := 21) rfl rfl (fun (h12 : v < g 53 1) => ?_) (fun (h12 : ¬ (v < g 53 1)) => ?_)
    · exact absurd ⟨Int32.not_lt.mp h1, h12⟩ hv
    · refine kx_st 0 (pc' := 15) (L' := [some (.ref 0), some (.int v)]) (st' := []) (h' := kv_wd g w) rfl ?_
      refine kx_st 2 (pc' := 17) (L' := [some (.ref 0), some (.int v)]) (st' := [.int 2, .ref 0]) (h' := kv_wd g w) rfl ?_
      refine kx_call (z := 123) (as := [.ref 0, .int 2]) (rest := []) (v := some (.int (-1000000000 - nI 2))) (h1 := kv_wd (kv_up g 64 2 (g 64 2 + 1)) w) rfl (ev_error (d := d) 2 (by decide) (by decide)) ?_
      refine kx_st 0 (pc' := 20) (L' := [some (.ref 0), some (.int v)]) (st' := [.int (-1000000000 - nI 2)]) (h' := kv_wd (kv_up g 64 2 (g 64 2 + 1)) w) rfl ?_
      refine kx_ret (v := some (.int (-1000000000 - nI 2))) rfl ?_
      exact ⟨rfl, rfl⟩
set_option maxRecDepth 100000 in
theorem ev_m_trace {E : kv_V} {d : Nat} {g : kv_S} {w : kv_W} (k : Nat) (hv : 0 ≤ nI k ∧ nI k ≤ g 65 20 - 1) (h : k < 40) : kv_ev E (d + 2) 209 [.ref 65, .int (nI k)] (kv_wd g w) (some (.int (g 75 k))) (kv_wd g w) := by
  refine kx_ev (d := d + 1) (by decide) (Nat.le_of_ble_eq_true rfl) ?_
  refine kx_st 0 (pc' := 0) (L' := [some (.ref 65), some (.int (nI k))]) (st' := []) (h' := kv_wd g w) rfl ?_
  refine kx_st 6 (pc' := 8) (L' := [some (.ref 65), some (.int (nI k))]) (st' := [.int ((g 65 20) - 1), .int 0, .int (nI k)]) (h' := kv_wd g w) rfl ?_
  refine kx_call (z := 130) (as := [.int (nI k), .int 0, .int ((g 65 20) - 1)]) (rest := []) (v := some (.int (kx_b (0 ≤ nI k ∧ nI k ≤ (g 65 20) - 1)))) (h1 := kv_wd g w) rfl (ev_in (d := d) (nI k) 0 ((g 65 20) - 1)) ?_
  refine kx_st 0 (pc' := 11) (L' := [some (.ref 65), some (.int (nI k))]) (st' := [.int (kx_b (0 ≤ nI k ∧ nI k ≤ (g 65 20) - 1))]) (h' := kv_wd g w) rfl ?_
  refine kx_be (t := 23) rfl rfl (fun (h11 : ¬ (0 ≤ nI k ∧ nI k ≤ (g 65 20) - 1)) => ?_) (fun (h11 : (0 ≤ nI k ∧ nI k ≤ (g 65 20) - 1)) => ?_)
  · exact absurd hv h11
  · refine kx_st 0 (pc' := 14) (L' := [some (.ref 65), some (.int (nI k))]) (st' := []) (h' := kv_wd g w) rfl ?_
    refine kx_st 3 (pc' := 19) (L' := [some (.ref 65), some (.int (nI k))]) (st' := [.int (nI k), .ref 75]) (h' := kv_wd g w) rfl ?_
    refine kx_ia (k := k) rfl rfl (by decide) rfl (by omega) (by decide) ?_
    refine kx_st 1 (pc' := 29) (L' := [some (.ref 65), some (.int (nI k))]) (st' := [.int (g 75 k)]) (h' := kv_wd g w) rfl ?_
    refine kx_ret (v := some (.int (g 75 k))) rfl ?_
    exact ⟨rfl, rfl⟩
set_option maxRecDepth 100000 in
theorem ev_m_trace_e {E : kv_V} {d : Nat} {g : kv_S} {w : kv_W} (v : Int32) (hv : ¬ (0 ≤ v ∧ v ≤ g 65 20 - 1)) : kv_ev E (d + 2) 209 [.ref 65, .int v] (kv_wd g w) (some (.int (-1000000002))) (kv_wd (kv_up g 70 2 (g 70 2 + 1)) w) := by
  refine kx_ev (d := d + 1) (by decide) (Nat.le_of_ble_eq_true rfl) ?_
  refine kx_st 0 (pc' := 0) (L' := [some (.ref 65), some (.int v)]) (st' := []) (h' := kv_wd g w) rfl ?_
  refine kx_st 6 (pc' := 8) (L' := [some (.ref 65), some (.int v)]) (st' := [.int ((g 65 20) - 1), .int 0, .int v]) (h' := kv_wd g w) rfl ?_
  refine kx_call (z := 130) (as := [.int v, .int 0, .int ((g 65 20) - 1)]) (rest := []) (v := some (.int (kx_b (0 ≤ v ∧ v ≤ (g 65 20) - 1)))) (h1 := kv_wd g w) rfl (ev_in (d := d) v 0 ((g 65 20) - 1)) ?_
  refine kx_st 0 (pc' := 11) (L' := [some (.ref 65), some (.int v)]) (st' := [.int (kx_b (0 ≤ v ∧ v ≤ (g 65 20) - 1))]) (h' := kv_wd g w) rfl ?_
  refine kx_be (t := 23) rfl rfl (fun (h11 : ¬ (0 ≤ v ∧ v ≤ (g 65 20) - 1)) => ?_) (fun (h11 : (0 ≤ v ∧ v ≤ (g 65 20) - 1)) => ?_)
  · refine kx_st 2 (pc' := 26) (L' := [some (.ref 65), some (.int v)]) (st' := [.int (-1000000002), .ref 65]) (h' := kv_wd g w) rfl ?_
    refine kx_call (z := 131) (as := [.ref 65, .int (-1000000002)]) (rest := []) (v := some (.int (-1000000002))) (h1 := kv_wd (kv_up g 70 2 (g 70 2 + 1)) w) rfl (ev_errs (d := d) (-1000000002) 2 (by decide) (by decide)) ?_
    refine kx_st 0 (pc' := 29) (L' := [some (.ref 65), some (.int v)]) (st' := [.int (-1000000002)]) (h' := kv_wd (kv_up g 70 2 (g 70 2 + 1)) w) rfl ?_
    refine kx_ret (v := some (.int (-1000000002))) rfl ?_
    exact ⟨rfl, rfl⟩
  · exact absurd h11 hv
