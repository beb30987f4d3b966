/-! KNOTS: knotAt, become, alike -/
theorem kx_i26b (k : Nat) : (26 : Int32) + 9 * nI k = nI (26 + 9 * k) := by
  show nI 26 + nI 9 * nI k = _
  rw [kx_nmul, kx_nadd]
set_option maxRecDepth 100000 in
theorem ev_knotAt {E : kv_V} {d : Nat} {g : kv_S} {w : kv_W} (hq : kv_qok w) (k : Nat) (hk : k < 8) (hc : nI k < g 1 4) : kv_ev E (d + 1) 17 [.ref 1, .int (nI k)] (kv_wd g w) (some (.ref (14 + k))) (kv_wd g w) := by
  refine kx_ev (d := d + 0) (by decide) (Nat.le_of_ble_eq_true rfl) ?_
  refine kx_st 0 (pc' := 0) (L' := [some (.ref 1), some (.int (nI k))]) (st' := []) (h' := kv_wd g w) rfl ?_
  refine kx_st 1 (pc' := 1) (L' := [some (.ref 1), some (.int (nI k))]) (st' := [.int (nI k)]) (h' := kv_wd g w) rfl ?_
  refine kx_bc (t := 21) rfl rfl (fun (h1 : nI k < 0) => ?_) (fun (h1 : ¬ (nI k < 0)) => ?_)
  · exact absurd h1 (nI_pos (by omega))
  · refine kx_st 0 (pc' := 4) (L' := [some (.ref 1), some (.int (nI k))]) (st' := []) (h' := kv_wd g w) rfl ?_
    refine kx_st 3 (pc' := 9) (L' := [some (.ref 1), some (.int (nI k))]) (st' := [.int (g 1 4), .int (nI k)]) (h' := kv_wd g w) rfl ?_
    refine kx_bi (t := 21) rfl rfl (fun (h9 : g 1 4 ≤ nI k) => ?_) (fun (h9 : ¬ (g 1 4 ≤ nI k)) => ?_)
    · exact absurd h9 (Int32.not_le.mpr hc)
    · refine kx_st 0 (pc' := 12) (L' := [some (.ref 1), some (.int (nI k))]) (st' := []) (h' := kv_wd g w) rfl ?_
      refine kx_st 4 (pc' := 18) (L' := [some (.ref 1), some (.int (nI k))]) (st' := [.int 8, .int (nI k)]) (h' := kv_wd g w) rfl ?_
      refine kx_bi (t := 25) rfl rfl (fun (h18 : nI k < 8) => ?_) (fun (h18 : ¬ (nI k < 8)) => ?_)
      · refine kx_st 3 (pc' := 30) (L' := [some (.ref 1), some (.int (nI k))]) (st' := [.int (nI k), .ref 5]) (h' := kv_wd g w) rfl ?_
        refine kx_aa (t := 2) (k := k) (b := (14 + k)) rfl rfl (by decide) (by decide) rfl (by omega) (by decide) (hq.1 _ (by omega)) ?_
        refine kx_ret (v := some (.ref (14 + k))) rfl ?_
        exact ⟨rfl, rfl⟩
      · exact absurd (nI_lt (a := k) (b := 8) hk (by decide)) h18
set_option maxRecDepth 100000 in
theorem ev_knotAt_n {E : kv_V} {d : Nat} {g : kv_S} {w : kv_W} (v : Int32) (hv : ¬ (0 ≤ v ∧ v < g 1 4)) : kv_ev E (d + 1) 17 [.ref 1, .int v] (kv_wd g w) (some (.null)) (kv_wd g w) := by
  refine kx_ev (d := d + 0) (by decide) (Nat.le_of_ble_eq_true rfl) ?_
  refine kx_st 0 (pc' := 0) (L' := [some (.ref 1), some (.int v)]) (st' := []) (h' := kv_wd g w) rfl ?_
  refine kx_st 1 (pc' := 1) (L' := [some (.ref 1), some (.int v)]) (st' := [.int v]) (h' := kv_wd g w) rfl ?_
  refine kx_bc (t := 21) rfl rfl (fun (h1 : v < 0) => ?_) (fun (h1 : ¬ (v < 0)) => ?_)
  · refine kx_st 2 (pc' := 31) (L' := [some (.ref 1), some (.int v)]) (st' := [.null]) (h' := kv_wd g w) rfl ?_
    refine kx_ret (v := some (.null)) rfl ?_
    exact ⟨rfl, rfl⟩
  · refine kx_st 0 (pc' := 4) (L' := [some (.ref 1), some (.int v)]) (st' := []) (h' := kv_wd g w) rfl ?_
    refine kx_st 3 (pc' := 9) (L' := [some (.ref 1), some (.int v)]) (st' := [.int (g 1 4), .int v]) (h' := kv_wd g w) rfl ?_
    refine kx_bi (t := 21) rfl rfl (fun (h9 : g 1 4 ≤ v) => ?_) (fun (h9 : ¬ (g 1 4 ≤ v)) => ?_)
    · refine kx_st 2 (pc' := 31) (L' := [some (.ref 1), some (.int v)]) (st' := [.null]) (h' := kv_wd g w) rfl ?_
      refine kx_ret (v := some (.null)) rfl ?_
      exact ⟨rfl, rfl⟩
    · exact absurd ⟨Int32.not_lt.mp h1, Int32.not_le.mp h9⟩ hv
set_option maxRecDepth 100000 in
theorem ev_x_become {E : kv_V} {d : Nat} {g : kv_S} {w : kv_W} (hq : kv_qok w) (k : Nat) (hk : k < 8) (hc : nI k < g 1 4) (v : Int32) (hv : 0 ≤ v ∧ v ≤ 69) : kv_ev E (d + 2) 88 [.ref 0, .int (nI k), .int v] (kv_wd g w) (some (.int (g (14 + k) 0))) (kv_wd (kv_up (kv_up g (14 + k) 0 (v / 10)) (14 + k) 1 (v % 10)) w) := by
  refine kx_ev (d := d + 1) (by decide) (Nat.le_of_ble_eq_true rfl) ?_
  refine kx_st 0 (pc' := 0) (L' := [some (.ref 0), some (.int (nI k)), some (.int v), none, none]) (st' := []) (h' := kv_wd g w) rfl ?_
  refine kx_st 3 (pc' := 5) (L' := [some (.ref 0), some (.int (nI k)), some (.int v), none, none]) (st' := [.int (nI k), .ref 1]) (h' := kv_wd g w) rfl ?_
  refine kx_call (z := 17) (as := [.ref 1, .int (nI k)]) (rest := []) (v := some (.ref (14 + k))) (h1 := kv_wd g w) rfl (ev_knotAt (d := d) hq k hk hc) ?_
  refine kx_st 0 (pc' := 8) (L' := [some (.ref 0), some (.int (nI k)), some (.int v), none, none]) (st' := [.ref (14 + k)]) (h' := kv_wd g w) rfl ?_
  refine kx_st 2 (pc' := 10) (L' := [some (.ref 0), some (.int (nI k)), some (.int v), some (.ref (14 + k)), none]) (st' := [.ref (14 + k)]) (h' := kv_wd g w) rfl ?_
  refine kx_st 1 (pc' := 13) (L' := [some (.ref 0), some (.int (nI k)), some (.int v), some (.ref (14 + k)), none]) (st' := []) (h' := kv_wd g w) rfl ?_
  refine kx_st 2 (pc' := 16) (L' := [some (.ref 0), some (.int (nI k)), some (.int v), some (.ref (14 + k)), none]) (st' := [.int 69, .int v]) (h' := kv_wd g w) rfl ?_
  refine kx_call (z := 124) (as := [.int v, .int 69]) (rest := []) (v := some (.int (kx_b (0 ≤ v ∧ v ≤ 69)))) (h1 := kv_wd g w) rfl (ev_within (d := d) v 69) ?_
  refine kx_st 0 (pc' := 19) (L' := [some (.ref 0), some (.int (nI k)), some (.int v), some (.ref (14 + k)), none]) (st' := [.int (kx_b (0 ≤ v ∧ v ≤ 69))]) (h' := kv_wd g w) rfl ?_
  refine kx_bn (t := 28) rfl rfl (fun (h19 : (0 ≤ v ∧ v ≤ 69)) => ?_) (fun (h19 : ¬ (0 ≤ v ∧ v ≤ 69)) => ?_)
  · refine kx_st 1 (pc' := 29) (L' := [some (.ref 0), some (.int (nI k)), some (.int v), some (.ref (14 + k)), none]) (st' := [.ref (14 + k)]) (h' := kv_wd g w) rfl ?_
    refine kx_gf (i := 143) (k := 0) (v := .int (g (14 + k) 0)) rfl rfl (kv_kn_h hk).1 ((kv_kn_h hk).2 _ _) rfl ?_
    refine kx_st 4 (pc' := 38) (L' := [some (.ref 0), some (.int (nI k)), some (.int v), some (.ref (14 + k)), some (.int (g (14 + k) 0))]) (st' := [.int 10, .int v, .ref (14 + k)]) (h' := kv_wd g w) rfl ?_
    refine kx_dv rfl (by decide) ?_
    refine kx_pf (i := 143) (k := 0) (x := (v / 10)) rfl rfl (kv_kn_h hk).1 ((kv_kn_h hk).2 _ _) (Nat.le_of_ble_eq_true rfl) (by rw [(kv_kn_h hk).2]; rfl) rfl rfl ?_
    refine kx_st 3 (pc' := 46) (L' := [some (.ref 0), some (.int (nI k)), some (.int v), some (.ref (14 + k)), some (.int (g (14 + k) 0))]) (st' := [.int 10, .int v, .ref (14 + k)]) (h' := kv_wd (kv_up g (14 + k) 0 (v / 10)) w) rfl ?_
    refine kx_rm rfl (by decide) ?_
    refine kx_pf (i := 146) (k := 1) (x := (v % 10)) rfl rfl (kv_kn_h hk).1 ((kv_kn_h hk).2 _ _) (Nat.le_of_ble_eq_true rfl) (by rw [(kv_kn_h hk).2]; rfl) rfl rfl ?_
    refine kx_st 1 (pc' := 52) (L' := [some (.ref 0), some (.int (nI k)), some (.int v), some (.ref (14 + k)), some (.int (g (14 + k) 0))]) (st' := [.int (g (14 + k) 0)]) (h' := kv_wd (kv_up (kv_up g (14 + k) 0 (v / 10)) (14 + k) 1 (v % 10)) w) rfl ?_
    refine kx_ret (v := some (.int (g (14 + k) 0))) rfl ?_
    exact ⟨rfl, rfl⟩
  · exact absurd hv h19
set_option maxRecDepth 100000 in
theorem ev_x_become_n {E : kv_V} {d : Nat} {g : kv_S} {w : kv_W} (z v : Int32) (hv : ¬ (0 ≤ z ∧ z < g 1 4)) : kv_ev E (d + 2) 88 [.ref 0, .int z, .int v] (kv_wd g w) (some (.int (-1000000000 - nI 1))) (kv_wd (kv_up g 64 1 (g 64 1 + 1)) w) := by
  refine kx_ev (d := d + 1) (by decide) (Nat.le_of_ble_eq_true rfl) ?_
  refine kx_st 0 (pc' := 0) (L' := [some (.ref 0), some (.int z), some (.int v), none, none]) (st' := []) (h' := kv_wd g w) rfl ?_
  refine kx_st 3 (pc' := 5) (L' := [some (.ref 0), some (.int z), some (.int v), none, none]) (st' := [.int z, .ref 1]) (h' := kv_wd g w) rfl ?_
  refine kx_call (z := 17) (as := [.ref 1, .int z]) (rest := []) (v := some (.null)) (h1 := kv_wd g w) rfl (ev_knotAt_n (d := d) z hv) ?_
  refine kx_st 0 (pc' := 8) (L' := [some (.ref 0), some (.int z), some (.int v), none, none]) (st' := [.null]) (h' := kv_wd g w) rfl ?_
  refine kx_st 2 (pc' := 10) (L' := [some (.ref 0), some (.int z), some (.int v), some (.null), none]) (st' := [.null]) (h' := kv_wd g w) rfl ?_
  refine kx_st 1 (pc' := 22) (L' := [some (.ref 0), some (.int z), some (.int v), some (.null), none]) (st' := []) (h' := kv_wd g w) rfl ?_
  refine kx_st 2 (pc' := 24) (L' := [some (.ref 0), some (.int z), some (.int v), some (.null), none]) (st' := [.int 1, .ref 0]) (h' := kv_wd g w) rfl ?_
  refine kx_call (z := 123) (as := [.ref 0, .int 1]) (rest := []) (v := some (.int (-1000000000 - nI 1))) (h1 := kv_wd (kv_up g 64 1 (g 64 1 + 1)) w) rfl (ev_error (d := d) 1 (by decide) (by decide)) ?_
  refine kx_st 0 (pc' := 27) (L' := [some (.ref 0), some (.int z), some (.int v), some (.null), none]) (st' := [.int (-1000000000 - nI 1)]) (h' := kv_wd (kv_up g 64 1 (g 64 1 + 1)) w) rfl ?_
  refine kx_ret (v := some (.int (-1000000000 - nI 1))) rfl ?_
  exact ⟨rfl, rfl⟩
set_option maxRecDepth 100000 in
theorem ev_x_become_e {E : kv_V} {d : Nat} {g : kv_S} {w : kv_W} (hq : kv_qok w) (k : Nat) (hk : k < 8) (hc : nI k < g 1 4) (v : Int32) (hv : ¬ (0 ≤ v ∧ v ≤ 69)) : kv_ev E (d + 2) 88 [.ref 0, .int (nI k), .int v] (kv_wd g w) (some (.int (-1000000000 - nI 1))) (kv_wd (kv_up g 64 1 (g 64 1 + 1)) w) := by
  refine kx_ev (d := d + 1) (by decide) (Nat.le_of_ble_eq_true rfl) ?_
  refine kx_st 0 (pc' := 0) (L' := [some (.ref 0), some (.int (nI k)), some (.int v), none, none]) (st' := []) (h' := kv_wd g w) rfl ?_
  refine kx_st 3 (pc' := 5) (L' := [some (.ref 0), some (.int (nI k)), some (.int v), none, none]) (st' := [.int (nI k), .ref 1]) (h' := kv_wd g w) rfl ?_
  refine kx_call (z := 17) (as := [.ref 1, .int (nI k)]) (rest := []) (v := some (.ref (14 + k))) (h1 := kv_wd g w) rfl (ev_knotAt (d := d) hq k hk hc) ?_
  refine kx_st 0 (pc' := 8) (L' := [some (.ref 0), some (.int (nI k)), some (.int v), none, none]) (st' := [.ref (14 + k)]) (h' := kv_wd g w) rfl ?_
  refine kx_st 2 (pc' := 10) (L' := [some (.ref 0), some (.int (nI k)), some (.int v), some (.ref (14 + k)), none]) (st' := [.ref (14 + k)]) (h' := kv_wd g w) rfl ?_
  refine kx_st 1 (pc' := 13) (L' := [some (.ref 0), some (.int (nI k)), some (.int v), some (.ref (14 + k)), none]) (st' := []) (h' := kv_wd g w) rfl ?_
  refine kx_st 2 (pc' := 16) (L' := [some (.ref 0), some (.int (nI k)), some (.int v), some (.ref (14 + k)), none]) (st' := [.int 69, .int v]) (h' := kv_wd g w) rfl ?_
  refine kx_call (z := 124) (as := [.int v, .int 69]) (rest := []) (v := some (.int (kx_b (0 ≤ v ∧ v ≤ 69)))) (h1 := kv_wd g w) rfl (ev_within (d := d) v 69) ?_
  refine kx_st 0 (pc' := 19) (L' := [some (.ref 0), some (.int (nI k)), some (.int v), some (.ref (14 + k)), none]) (st' := [.int (kx_b (0 ≤ v ∧ v ≤ 69))]) (h' := kv_wd g w) rfl ?_
  refine kx_bn (t := 28) rfl rfl (fun (h19 : (0 ≤ v ∧ v ≤ 69)) => ?_) (fun (h19 : ¬ (0 ≤ v ∧ v ≤ 69)) => ?_)
  · exact absurd h19 hv
  · refine kx_st 0 (pc' := 22) (L' := [some (.ref 0), some (.int (nI k)), some (.int v), some (.ref (14 + k)), none]) (st' := []) (h' := kv_wd g w) rfl ?_
    refine kx_st 2 (pc' := 24) (L' := [some (.ref 0), some (.int (nI k)), some (.int v), some (.ref (14 + k)), none]) (st' := [.int 1, .ref 0]) (h' := kv_wd g w) rfl ?_
    refine kx_call (z := 123) (as := [.ref 0, .int 1]) (rest := []) (v := some (.int (-1000000000 - nI 1))) (h1 := kv_wd (kv_up g 64 1 (g 64 1 + 1)) w) rfl (ev_error (d := d) 1 (by decide) (by decide)) ?_
    refine kx_st 0 (pc' := 27) (L' := [some (.ref 0), some (.int (nI k)), some (.int v), some (.ref (14 + k)), none]) (st' := [.int (-1000000000 - nI 1)]) (h' := kv_wd (kv_up g 64 1 (g 64 1 + 1)) w) rfl ?_
    refine kx_ret (v := some (.int (-1000000000 - nI 1))) rfl ?_
    exact ⟨rfl, rfl⟩
set_option maxRecDepth 100000 in
theorem ev_m_become {E : kv_V} {d : Nat} {g : kv_S} {w : kv_W} (k : Nat) (hk : k < 8) (hc : 0 ≤ nI k ∧ nI k ≤ g 66 2 - 1) (v : Int32) (hv : 0 ≤ v ∧ v ≤ 69) : kv_ev E (d + 3) 152 [.ref 65, .int (nI k), .int v] (kv_wd g w) (some (.int (g 66 (26 + 9 * k)))) (kv_wd (kv_up (kv_up g 66 (26 + 9 * k + 1) (v % 10)) 66 (26 + 9 * k) (v / 10)) w) := by
  refine kx_ev (d := d + 2) (by decide) (Nat.le_of_ble_eq_true rfl) ?_
  refine kx_st 0 (pc' := 0) (L' := [some (.ref 65), some (.int (nI k)), some (.int v)]) (st' := []) (h' := kv_wd g w) rfl ?_
  refine kx_st 2 (pc' := 2) (L' := [some (.ref 65), some (.int (nI k)), some (.int v)]) (st' := [.int (nI k), .ref 65]) (h' := kv_wd g w) rfl ?_
  refine kx_call (z := 139) (as := [.ref 65, .int (nI k)]) (rest := []) (v := some (.int (kx_b (0 ≤ nI k ∧ nI k ≤ g 66 2 - 1)))) (h1 := kv_wd g w) rfl (ev_mKnot (d := d) (nI k)) ?_
  refine kx_st 0 (pc' := 5) (L' := [some (.ref 65), some (.int (nI k)), some (.int v)]) (st' := [.int (kx_b (0 ≤ nI k ∧ nI k ≤ g 66 2 - 1))]) (h' := kv_wd g w) rfl ?_
  refine kx_be (t := 18) rfl rfl (fun (h5 : ¬ (0 ≤ nI k ∧ nI k ≤ g 66 2 - 1)) => ?_) (fun (h5 : (0 ≤ nI k ∧ nI k ≤ g 66 2 - 1)) => ?_)
  · exact absurd hc h5
  · refine kx_st 0 (pc' := 8) (L' := [some (.ref 65), some (.int (nI k)), some (.int v)]) (st' := []) (h' := kv_wd g w) rfl ?_
    refine kx_st 3 (pc' := 12) (L' := [some (.ref 65), some (.int (nI k)), some (.int v)]) (st' := [.int 69, .int 0, .int v]) (h' := kv_wd g w) rfl ?_
    refine kx_call (z := 130) (as := [.int v, .int 0, .int 69]) (rest := []) (v := some (.int (kx_b (0 ≤ v ∧ v ≤ 69)))) (h1 := kv_wd g w) rfl (ev_in (d := d + 1) v 0 69) ?_
    refine kx_st 0 (pc' := 15) (L' := [some (.ref 65), some (.int (nI k)), some (.int v)]) (st' := [.int (kx_b (0 ≤ v ∧ v ≤ 69))]) (h' := kv_wd g w) rfl ?_
    refine kx_bn (t := 25) rfl rfl (fun (h15 : (0 ≤ v ∧ v ≤ 69)) => ?_) (fun (h15 : ¬ (0 ≤ v ∧ v ≤ 69)) => ?_)
    · refine kx_st 5 (pc' := 31) (L' := [some (.ref 65), some (.int (nI k)), some (.int v)]) (st' := [.int 10, .int v, .int 1, .int (nI k), .ref 65]) (h' := kv_wd g w) rfl ?_
      refine kx_rm rfl (by decide) ?_
      refine kx_call (z := 137) (as := [.ref 65, .int (nI k), .int 1, .int (v % 10)]) (rest := []) (v := none) (h1 := kv_wd (kv_up g 66 (26 + 9 * k + 1) (v % 10)) w) rfl (ev_gets (d := d + 1) k 1 (by omega) (v % 10)) ?_
      refine kx_st 0 (pc' := 35) (L' := [some (.ref 65), some (.int (nI k)), some (.int v)]) (st' := []) (h' := kv_wd (kv_up g 66 (26 + 9 * k + 1) (v % 10)) w) rfl ?_
      refine kx_st 8 (pc' := 46) (L' := [some (.ref 65), some (.int (nI k)), some (.int v)]) (st' := [.int 10, .int v, .int (26 + (9 * (nI k))), .ref 65]) (h' := kv_wd (kv_up g 66 (26 + 9 * k + 1) (v % 10)) w) rfl ?_
      refine kx_dv rfl (by decide) ?_
      refine kx_call (z := 142) (as := [.ref 65, .int (26 + (9 * (nI k))), .int (v / 10)]) (rest := []) (v := some (.int ((kv_up g 66 (26 + 9 * k + 1) (v % 10)) 66 (26 + 9 * k)))) (h1 := kv_wd (kv_up (kv_up g 66 (26 + 9 * k + 1) (v % 10)) 66 (26 + 9 * k) (v / 10)) w) rfl (by rw [kx_i26b]; exact ev_becomes (d := d + 1) (26 + 9 * k) (by omega) (v / 10)) ?_
      refine kx_st 0 (pc' := 50) (L' := [some (.ref 65), some (.int (nI k)), some (.int v)]) (st' := [.int ((kv_up g 66 (26 + 9 * k + 1) (v % 10)) 66 (26 + 9 * k))]) (h' := kv_wd (kv_up (kv_up g 66 (26 + 9 * k + 1) (v % 10)) 66 (26 + 9 * k) (v / 10)) w) rfl ?_
      refine kx_ret (v := some (.int ((kv_up g 66 (26 + 9 * k + 1) (v % 10)) 66 (26 + 9 * k)))) rfl ?_
      exact ⟨by rw [show kv_up g 66 (26 + 9 * k + 1) (v % 10) 66 (26 + 9 * k) = g 66 (26 + 9 * k) from if_neg (by omega)], rfl⟩
    · exact absurd hv h15
set_option maxRecDepth 100000 in
theorem ev_m_become_n {E : kv_V} {d : Nat} {g : kv_S} {w : kv_W} (z v : Int32) (hz : ¬ (0 ≤ z ∧ z ≤ g 66 2 - 1)) : kv_ev E (d + 3) 152 [.ref 65, .int z, .int v] (kv_wd g w) (some (.int (-1000000001))) (kv_wd (kv_up g 70 1 (g 70 1 + 1)) w) := by
  refine kx_ev (d := d + 2) (by decide) (Nat.le_of_ble_eq_true rfl) ?_
  refine kx_st 0 (pc' := 0) (L' := [some (.ref 65), some (.int z), some (.int v)]) (st' := []) (h' := kv_wd g w) rfl ?_
  refine kx_st 2 (pc' := 2) (L' := [some (.ref 65), some (.int z), some (.int v)]) (st' := [.int z, .ref 65]) (h' := kv_wd g w) rfl ?_
  refine kx_call (z := 139) (as := [.ref 65, .int z]) (rest := []) (v := some (.int (kx_b (0 ≤ z ∧ z ≤ g 66 2 - 1)))) (h1 := kv_wd g w) rfl (ev_mKnot (d := d) z) ?_
  refine kx_st 0 (pc' := 5) (L' := [some (.ref 65), some (.int z), some (.int v)]) (st' := [.int (kx_b (0 ≤ z ∧ z ≤ g 66 2 - 1))]) (h' := kv_wd g w) rfl ?_
  refine kx_be (t := 18) rfl rfl (fun (h5 : ¬ (0 ≤ z ∧ z ≤ g 66 2 - 1)) => ?_) (fun (h5 : (0 ≤ z ∧ z ≤ g 66 2 - 1)) => ?_)
  · refine kx_st 2 (pc' := 21) (L' := [some (.ref 65), some (.int z), some (.int v)]) (st' := [.int (-1000000001), .ref 65]) (h' := kv_wd g w) rfl ?_
    refine kx_call (z := 131) (as := [.ref 65, .int (-1000000001)]) (rest := []) (v := some (.int (-1000000001))) (h1 := kv_wd (kv_up g 70 1 (g 70 1 + 1)) w) rfl (ev_errs (d := d + 1) (-1000000001) 1 (by decide) (by decide)) ?_
    refine kx_st 0 (pc' := 24) (L' := [some (.ref 65), some (.int z), some (.int v)]) (st' := [.int (-1000000001)]) (h' := kv_wd (kv_up g 70 1 (g 70 1 + 1)) w) rfl ?_
    refine kx_ret (v := some (.int (-1000000001))) rfl ?_
    exact ⟨rfl, rfl⟩
  · exact absurd h5 hz
set_option maxRecDepth 100000 in
theorem ev_m_become_e {E : kv_V} {d : Nat} {g : kv_S} {w : kv_W} (z v : Int32) (hz : 0 ≤ z ∧ z ≤ g 66 2 - 1) (hv : ¬ (0 ≤ v ∧ v ≤ 69)) : kv_ev E (d + 3) 152 [.ref 65, .int z, .int v] (kv_wd g w) (some (.int (-1000000001))) (kv_wd (kv_up g 70 1 (g 70 1 + 1)) w) := by
  refine kx_ev (d := d + 2) (by decide) (Nat.le_of_ble_eq_true rfl) ?_
  refine kx_st 0 (pc' := 0) (L' := [some (.ref 65), some (.int z), some (.int v)]) (st' := []) (h' := kv_wd g w) rfl ?_
  refine kx_st 2 (pc' := 2) (L' := [some (.ref 65), some (.int z), some (.int v)]) (st' := [.int z, .ref 65]) (h' := kv_wd g w) rfl ?_
  refine kx_call (z := 139) (as := [.ref 65, .int z]) (rest := []) (v := some (.int (kx_b (0 ≤ z ∧ z ≤ g 66 2 - 1)))) (h1 := kv_wd g w) rfl (ev_mKnot (d := d) z) ?_
  refine kx_st 0 (pc' := 5) (L' := [some (.ref 65), some (.int z), some (.int v)]) (st' := [.int (kx_b (0 ≤ z ∧ z ≤ g 66 2 - 1))]) (h' := kv_wd g w) rfl ?_
  refine kx_be (t := 18) rfl rfl (fun (h5 : ¬ (0 ≤ z ∧ z ≤ g 66 2 - 1)) => ?_) (fun (h5 : (0 ≤ z ∧ z ≤ g 66 2 - 1)) => ?_)
  · exact absurd hz h5
  · refine kx_st 0 (pc' := 8) (L' := [some (.ref 65), some (.int z), some (.int v)]) (st' := []) (h' := kv_wd g w) rfl ?_
    refine kx_st 3 (pc' := 12) (L' := [some (.ref 65), some (.int z), some (.int v)]) (st' := [.int 69, .int 0, .int v]) (h' := kv_wd g w) rfl ?_
    refine kx_call (z := 130) (as := [.int v, .int 0, .int 69]) (rest := []) (v := some (.int (kx_b (0 ≤ v ∧ v ≤ 69)))) (h1 := kv_wd g w) rfl (ev_in (d := d + 1) v 0 69) ?_
    refine kx_st 0 (pc' := 15) (L' := [some (.ref 65), some (.int z), some (.int v)]) (st' := [.int (kx_b (0 ≤ v ∧ v ≤ 69))]) (h' := kv_wd g w) rfl ?_
    refine kx_bn (t := 25) rfl rfl (fun (h15 : (0 ≤ v ∧ v ≤ 69)) => ?_) (fun (h15 : ¬ (0 ≤ v ∧ v ≤ 69)) => ?_)
    · exact absurd h15 hv
    · refine kx_st 0 (pc' := 18) (L' := [some (.ref 65), some (.int z), some (.int v)]) (st' := []) (h' := kv_wd g w) rfl ?_
      refine kx_st 2 (pc' := 21) (L' := [some (.ref 65), some (.int z), some (.int v)]) (st' := [.int (-1000000001), .ref 65]) (h' := kv_wd g w) rfl ?_
      refine kx_call (z := 131) (as := [.ref 65, .int (-1000000001)]) (rest := []) (v := some (.int (-1000000001))) (h1 := kv_wd (kv_up g 70 1 (g 70 1 + 1)) w) rfl (ev_errs (d := d + 1) (-1000000001) 1 (by decide) (by decide)) ?_
      refine kx_st 0 (pc' := 24) (L' := [some (.ref 65), some (.int z), some (.int v)]) (st' := [.int (-1000000001)]) (h' := kv_wd (kv_up g 70 1 (g 70 1 + 1)) w) rfl ?_
      refine kx_ret (v := some (.int (-1000000001))) rfl ?_
      exact ⟨rfl, rfl⟩
def kx_alF (T C : Nat → Int32) (a b : Nat) : Int32 := kx_b (¬ T a = 0 ∧ ¬ T b = 0 ∧ C a = C b)
set_option maxRecDepth 100000 in
theorem lp_alikeI {E : kv_V} {d : Nat} {g : kv_S} {w : kv_W} (hq : kv_qok w) (b : Int32) (i : Nat) (hi : i < 8) {P : Option Value → kv_H → Prop} (hP : ∀ o4 o5, kx_V E d 105 82 [some (.ref 0), some (.int (b + kx_sum ((kx_alF (fun a => g (14 + a) 7) (fun a => g (14 + a) 4)) i) i)), some (.int (nI i)), some (.int (nI i)), o4, o5] [] (kv_wd g w) P) : ∀ (n j : Nat) (o4 o5 : Option Value), j + n = i → kx_V E d 105 17 [some (.ref 0), some (.int (b + kx_sum ((kx_alF (fun a => g (14 + a) 7) (fun a => g (14 + a) 4)) i) j)), some (.int (nI i)), some (.int (nI j)), o4, o5] [] (kv_wd g w) P := by
  intro n
  induction n with
  | zero =>
    intro j o4 o5 hj
    have hji : j = i := by omega
    refine kx_st 2 (pc' := 19) (L' := [some (.ref 0), some (.int (b + kx_sum ((kx_alF (fun a => g (14 + a) 7) (fun a => g (14 + a) 4)) i) j)), some (.int (nI i)), some (.int (nI j)), o4, o5]) (st' := [.int (nI i), .int (nI j)]) (h' := kv_wd g w) rfl ?_
    refine kx_bi (t := 82) rfl rfl (fun (h19 : nI i ≤ nI j) => ?_) (fun (h19 : ¬ (nI i ≤ nI j)) => ?_)
    · subst hji
      exact hP o4 o5
    · exact absurd (nI_le (a := i) (b := j) (by omega) (by omega)) h19
  | succ n ih =>
    intro j o4 o5 hj
    refine kx_st 2 (pc' := 19) (L' := [some (.ref 0), some (.int (b + kx_sum ((kx_alF (fun a => g (14 + a) 7) (fun a => g (14 + a) 4)) i) j)), some (.int (nI i)), some (.int (nI j)), o4, o5]) (st' := [.int (nI i), .int (nI j)]) (h' := kv_wd g w) rfl ?_
    refine kx_bi (t := 82) rfl rfl (fun (h19 : nI i ≤ nI j) => ?_) (fun (h19 : ¬ (nI i ≤ nI j)) => ?_)
    · exact absurd h19 (nI_ge (by omega) (by omega))
    · refine kx_st 0 (pc' := 22) (L' := [some (.ref 0), some (.int (b + kx_sum ((kx_alF (fun a => g (14 + a) 7) (fun a => g (14 + a) 4)) i) j)), some (.int (nI i)), some (.int (nI j)), o4, o5]) (st' := []) (h' := kv_wd g w) rfl ?_
      refine kx_st 4 (pc' := 30) (L' := [some (.ref 0), some (.int (b + kx_sum ((kx_alF (fun a => g (14 + a) 7) (fun a => g (14 + a) 4)) i) j)), some (.int (nI i)), some (.int (nI j)), o4, o5]) (st' := [.int (nI i), .ref 5]) (h' := kv_wd g w) rfl ?_
      refine kx_aa (t := 2) (k := i) (b := 14 + i) rfl rfl (by decide) (by decide) rfl (by omega) (by decide) (hq.1 _ (by omega)) ?_
      refine kx_st 5 (pc' := 41) (L' := [some (.ref 0), some (.int (b + kx_sum ((kx_alF (fun a => g (14 + a) 7) (fun a => g (14 + a) 4)) i) j)), some (.int (nI i)), some (.int (nI j)), some (.ref (14 + i)), o5]) (st' := [.int (nI j), .ref 5]) (h' := kv_wd g w) rfl ?_
      refine kx_aa (t := 2) (k := j) (b := 14 + j) rfl rfl (by decide) (by decide) rfl (by omega) (by decide) (hq.1 _ (by omega)) ?_
      refine kx_st 2 (pc' := 46) (L' := [some (.ref 0), some (.int (b + kx_sum ((kx_alF (fun a => g (14 + a) 7) (fun a => g (14 + a) 4)) i) j)), some (.int (nI i)), some (.int (nI j)), some (.ref (14 + i)), some (.ref (14 + j))]) (st' := [.ref (14 + i)]) (h' := kv_wd g w) rfl ?_
      refine kx_gf (i := 113) (k := 7) (v := .int (g (14 + i) 7)) rfl rfl (kv_kn_h (show i < 8 by omega)).1 ((kv_kn_h (show i < 8 by omega)).2 _ _) rfl ?_
      refine kx_bc (t := 76) rfl rfl (fun (h49 : g (14 + i) 7 = 0) => ?_) (fun (h49 : ¬ (g (14 + i) 7 = 0)) => ?_)
      · refine kx_st 2 (pc' := 17) (L' := [some (.ref 0), some (.int (b + kx_sum ((kx_alF (fun a => g (14 + a) 7) (fun a => g (14 + a) 4)) i) j)), some (.int (nI i)), some (.int ((nI j) + 1)), some (.ref (14 + i)), some (.ref (14 + j))]) (st' := []) (h' := kv_wd g w) rfl ?_
        have e : kx_alF (fun a => g (14 + a) 7) (fun a => g (14 + a) 4) i j = 0 := kx_b_neg (fun q => q.1 h49)
        rw [← nI_succ, show b + kx_sum (kx_alF (fun a => g (14 + a) 7) (fun a => g (14 + a) 4) i) j = b + (kx_sum (kx_alF (fun a => g (14 + a) 7) (fun a => g (14 + a) 4) i) j + kx_alF (fun a => g (14 + a) 7) (fun a => g (14 + a) 4) i j) from by rw [e, Int32.add_zero]]
        exact ih (j + 1) _ _ (by omega)
      · refine kx_st 0 (pc' := 52) (L' := [some (.ref 0), some (.int (b + kx_sum ((kx_alF (fun a => g (14 + a) 7) (fun a => g (14 + a) 4)) i) j)), some (.int (nI i)), some (.int (nI j)), some (.ref (14 + i)), some (.ref (14 + j))]) (st' := []) (h' := kv_wd g w) rfl ?_
        refine kx_st 1 (pc' := 54) (L' := [some (.ref 0), some (.int (b + kx_sum ((kx_alF (fun a => g (14 + a) 7) (fun a => g (14 + a) 4)) i) j)), some (.int (nI i)), some (.int (nI j)), some (.ref (14 + i)), some (.ref (14 + j))]) (st' := [.ref (14 + j)]) (h' := kv_wd g w) rfl ?_
        refine kx_gf (i := 113) (k := 7) (v := .int (g (14 + j) 7)) rfl rfl (kv_kn_h (show j < 8 by omega)).1 ((kv_kn_h (show j < 8 by omega)).2 _ _) rfl ?_
        refine kx_bc (t := 76) rfl rfl (fun (h57 : g (14 + j) 7 = 0) => ?_) (fun (h57 : ¬ (g (14 + j) 7 = 0)) => ?_)
        · refine kx_st 2 (pc' := 17) (L' := [some (.ref 0), some (.int (b + kx_sum ((kx_alF (fun a => g (14 + a) 7) (fun a => g (14 + a) 4)) i) j)), some (.int (nI i)), some (.int ((nI j) + 1)), some (.ref (14 + i)), some (.ref (14 + j))]) (st' := []) (h' := kv_wd g w) rfl ?_
          have e : kx_alF (fun a => g (14 + a) 7) (fun a => g (14 + a) 4) i j = 0 := kx_b_neg (fun q => q.2.1 h57)
          rw [← nI_succ, show b + kx_sum (kx_alF (fun a => g (14 + a) 7) (fun a => g (14 + a) 4) i) j = b + (kx_sum (kx_alF (fun a => g (14 + a) 7) (fun a => g (14 + a) 4) i) j + kx_alF (fun a => g (14 + a) 7) (fun a => g (14 + a) 4) i j) from by rw [e, Int32.add_zero]]
          exact ih (j + 1) _ _ (by omega)
        · refine kx_st 0 (pc' := 60) (L' := [some (.ref 0), some (.int (b + kx_sum ((kx_alF (fun a => g (14 + a) 7) (fun a => g (14 + a) 4)) i) j)), some (.int (nI i)), some (.int (nI j)), some (.ref (14 + i)), some (.ref (14 + j))]) (st' := []) (h' := kv_wd g w) rfl ?_
          refine kx_st 1 (pc' := 62) (L' := [some (.ref 0), some (.int (b + kx_sum ((kx_alF (fun a => g (14 + a) 7) (fun a => g (14 + a) 4)) i) j)), some (.int (nI i)), some (.int (nI j)), some (.ref (14 + i)), some (.ref (14 + j))]) (st' := [.ref (14 + i)]) (h' := kv_wd g w) rfl ?_
          refine kx_gf (i := 245) (k := 4) (v := .int (g (14 + i) 4)) rfl rfl (kv_kn_h (show i < 8 by omega)).1 ((kv_kn_h (show i < 8 by omega)).2 _ _) rfl ?_
          refine kx_st 1 (pc' := 67) (L' := [some (.ref 0), some (.int (b + kx_sum ((kx_alF (fun a => g (14 + a) 7) (fun a => g (14 + a) 4)) i) j)), some (.int (nI i)), some (.int (nI j)), some (.ref (14 + i)), some (.ref (14 + j))]) (st' := [.ref (14 + j), .int (g (14 + i) 4)]) (h' := kv_wd g w) rfl ?_
          refine kx_gf (i := 245) (k := 4) (v := .int (g (14 + j) 4)) rfl rfl (kv_kn_h (show j < 8 by omega)).1 ((kv_kn_h (show j < 8 by omega)).2 _ _) rfl ?_
          refine kx_bi (t := 76) rfl rfl (fun (h70 : ¬ g (14 + i) 4 = g (14 + j) 4) => ?_) (fun (h70 : ¬ (¬ g (14 + i) 4 = g (14 + j) 4)) => ?_)
          · refine kx_st 2 (pc' := 17) (L' := [some (.ref 0), some (.int (b + kx_sum ((kx_alF (fun a => g (14 + a) 7) (fun a => g (14 + a) 4)) i) j)), some (.int (nI i)), some (.int ((nI j) + 1)), some (.ref (14 + i)), some (.ref (14 + j))]) (st' := []) (h' := kv_wd g w) rfl ?_
            have e : kx_alF (fun a => g (14 + a) 7) (fun a => g (14 + a) 4) i j = 0 := kx_b_neg (fun q => h70 q.2.2)
            rw [← nI_succ, show b + kx_sum (kx_alF (fun a => g (14 + a) 7) (fun a => g (14 + a) 4) i) j = b + (kx_sum (kx_alF (fun a => g (14 + a) 7) (fun a => g (14 + a) 4) i) j + kx_alF (fun a => g (14 + a) 7) (fun a => g (14 + a) 4) i j) from by rw [e, Int32.add_zero]]
            exact ih (j + 1) _ _ (by omega)
          · refine kx_st 0 (pc' := 73) (L' := [some (.ref 0), some (.int (b + kx_sum ((kx_alF (fun a => g (14 + a) 7) (fun a => g (14 + a) 4)) i) j)), some (.int (nI i)), some (.int (nI j)), some (.ref (14 + i)), some (.ref (14 + j))]) (st' := []) (h' := kv_wd g w) rfl ?_
            refine kx_st 3 (pc' := 17) (L' := [some (.ref 0), some (.int ((b + kx_sum ((kx_alF (fun a => g (14 + a) 7) (fun a => g (14 + a) 4)) i) j) + 1)), some (.int (nI i)), some (.int ((nI j) + 1)), some (.ref (14 + i)), some (.ref (14 + j))]) (st' := []) (h' := kv_wd g w) rfl ?_
            have e : kx_alF (fun a => g (14 + a) 7) (fun a => g (14 + a) 4) i j = 1 := kx_b_pos ⟨h49, h57, Classical.not_not.mp h70⟩
            rw [← nI_succ, ← e, Int32.add_assoc]
            exact ih (j + 1) _ _ (by omega)
set_option maxRecDepth 100000 in
theorem lp_alikeO {E : kv_V} {d : Nat} {g : kv_S} {w : kv_W} (hq : kv_qok w) (m : Nat) (hm : m ≤ 8) (hm4 : g 1 4 = nI m) {P : Option Value → kv_H → Prop} (hP : P (some (.int (kx_sum (fun i => kx_sum ((kx_alF (fun a => g (14 + a) 7) (fun a => g (14 + a) 4)) i) i) m))) (kv_wd g w)) : ∀ (n i : Nat) (o3 o4 o5 : Option Value), i + n = m → kx_V E d 105 4 [some (.ref 0), some (.int (kx_sum (fun i => kx_sum ((kx_alF (fun a => g (14 + a) 7) (fun a => g (14 + a) 4)) i) i) i)), some (.int (nI i)), o3, o4, o5] [] (kv_wd g w) P := by
  intro n
  induction n with
  | zero =>
    intro i o3 o4 o5 hi
    have him : i = m := by omega
    refine kx_st 4 (pc' := 12) (L' := [some (.ref 0), some (.int (kx_sum (fun i => kx_sum ((kx_alF (fun a => g (14 + a) 7) (fun a => g (14 + a) 4)) i) i) i)), some (.int (nI i)), o3, o4, o5]) (st' := [.int (g 1 4), .int (nI i)]) (h' := kv_wd g w) rfl ?_
    refine kx_bi (t := 88) rfl rfl (fun (h12 : g 1 4 ≤ nI i) => ?_) (fun (h12 : ¬ (g 1 4 ≤ nI i)) => ?_)
    · refine kx_st 1 (pc' := 89) (L' := [some (.ref 0), some (.int (kx_sum (fun i => kx_sum ((kx_alF (fun a => g (14 + a) 7) (fun a => g (14 + a) 4)) i) i) i)), some (.int (nI i)), o3, o4, o5]) (st' := [.int (kx_sum (fun i => kx_sum ((kx_alF (fun a => g (14 + a) 7) (fun a => g (14 + a) 4)) i) i) i)]) (h' := kv_wd g w) rfl ?_
      refine kx_ret (v := some (.int (kx_sum (fun i => kx_sum ((kx_alF (fun a => g (14 + a) 7) (fun a => g (14 + a) 4)) i) i) i))) rfl ?_
      subst him
      exact hP
    · exact absurd (by rw [hm4]; exact nI_le (a := m) (b := i) (by omega) (by omega)) h12
  | succ n ih =>
    intro i o3 o4 o5 hi
    refine kx_st 4 (pc' := 12) (L' := [some (.ref 0), some (.int (kx_sum (fun i => kx_sum ((kx_alF (fun a => g (14 + a) 7) (fun a => g (14 + a) 4)) i) i) i)), some (.int (nI i)), o3, o4, o5]) (st' := [.int (g 1 4), .int (nI i)]) (h' := kv_wd g w) rfl ?_
    refine kx_bi (t := 88) rfl rfl (fun (h12 : g 1 4 ≤ nI i) => ?_) (fun (h12 : ¬ (g 1 4 ≤ nI i)) => ?_)
    · exact absurd h12 (by rw [hm4]; exact nI_ge (by omega) (by omega))
    · refine kx_st 0 (pc' := 15) (L' := [some (.ref 0), some (.int (kx_sum (fun i => kx_sum ((kx_alF (fun a => g (14 + a) 7) (fun a => g (14 + a) 4)) i) i) i)), some (.int (nI i)), o3, o4, o5]) (st' := []) (h' := kv_wd g w) rfl ?_
      refine kx_st 2 (pc' := 17) (L' := [some (.ref 0), some (.int (kx_sum (fun i => kx_sum ((kx_alF (fun a => g (14 + a) 7) (fun a => g (14 + a) 4)) i) i) i)), some (.int (nI i)), some (.int 0), o4, o5]) (st' := []) (h' := kv_wd g w) rfl ?_
      refine kx_st 0 (pc' := 17) (L' := [some (.ref 0), some (.int (kx_sum (fun i => kx_sum ((kx_alF (fun a => g (14 + a) 7) (fun a => g (14 + a) 4)) i) i) i + kx_sum ((kx_alF (fun a => g (14 + a) 7) (fun a => g (14 + a) 4)) i) 0)), some (.int (nI i)), some (.int (nI 0)), o4, o5]) (st' := []) (h' := kv_wd g w) (by rw [show kx_sum (fun i => kx_sum ((kx_alF (fun a => g (14 + a) 7) (fun a => g (14 + a) 4)) i) i) i + kx_sum ((kx_alF (fun a => g (14 + a) 7) (fun a => g (14 + a) 4)) i) 0 = kx_sum (fun i => kx_sum ((kx_alF (fun a => g (14 + a) 7) (fun a => g (14 + a) 4)) i) i) i from Int32.add_zero _]; rfl) ?_
      refine lp_alikeI hq _ i (by omega) (fun p4 p5 => ?_) i 0 o4 o5 (by omega)
      refine kx_st 2 (pc' := 4) (L' := [some (.ref 0), some (.int (kx_sum (fun i => kx_sum ((kx_alF (fun a => g (14 + a) 7) (fun a => g (14 + a) 4)) i) i) i + kx_sum ((kx_alF (fun a => g (14 + a) 7) (fun a => g (14 + a) 4)) i) i)), some (.int ((nI i) + 1)), some (.int (nI i)), p4, p5]) (st' := []) (h' := kv_wd g w) rfl ?_
      rw [← nI_succ]
      exact ih (i + 1) _ _ _ (by omega)
set_option maxRecDepth 100000 in
theorem ev_x_alike {E : kv_V} {d : Nat} {g : kv_S} {w : kv_W} (hq : kv_qok w) (m : Nat) (hm : m ≤ 8) (hm4 : g 1 4 = nI m) : kv_ev E (d + 1) 105 [.ref 0] (kv_wd g w) (some (.int (kx_sum (fun i => kx_sum ((kx_alF (fun a => g (14 + a) 7) (fun a => g (14 + a) 4)) i) i) m))) (kv_wd g w) := by
  refine kx_ev (d := d + 0) (by decide) (Nat.le_of_ble_eq_true rfl) ?_
  refine kx_st 0 (pc' := 0) (L' := [some (.ref 0), none, none, none, none, none]) (st' := []) (h' := kv_wd g w) rfl ?_
  refine kx_st 4 (pc' := 4) (L' := [some (.ref 0), some (.int 0), some (.int 0), none, none, none]) (st' := []) (h' := kv_wd g w) rfl ?_
  exact lp_alikeO hq m hm hm4 ⟨rfl, rfl⟩ m 0 none none none (by omega)
