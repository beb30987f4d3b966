/-! SHEETS -/
theorem kx_cv {y pc z pp b len : Nat} {ins : Instr} {st A rest fs : List Value} {g : kv_S} {w : kv_W} (hat : kv_at y pc = some (ins, len)) (hcl : kv_cl1 (kv_o y) ins = some (1, z, pp)) (hst : st = A.reverse ++ .ref b :: rest) (hA : A.length = kv_np z) (h8 : (rest.map fun v => v.category).sum ≤ 8) (hb : b < 76) (hc : kv_cr b (g b) w = .inr (kv_o z, fs)) : kx_c y pc st (kv_wd g w) = some (z, .ref b :: A, rest) := by
  have h1 : st.take (kv_np z) = A.reverse := by rw [hst, ← hA, ← List.length_reverse (as := A), List.take_left]
  have h2 : st.drop (kv_np z) = .ref b :: rest := by rw [hst, ← hA, ← List.length_reverse (as := A), List.drop_left]
  have h3 : kv_as 1 z st (kv_wd g w) = some (.ref b :: A, rest) := by
    unfold kv_as
    rw [h1, h2, if_pos (by rw [List.length_reverse]; exact hA)]
    simp only [if_pos h8, kv_wd_get hb, hc, if_true, List.reverse_reverse]
  simp only [kx_c, hat, hcl, h3]
def kv_st (k : Nat) : Prop := 57 + 2 * k < 76 ∧ (∀ (r : Nat → Int32) (w : kv_W), kv_cr (56 + 2 * k) r w = .inr (5, [.int (r 0), .int (r 1), .ref (57 + 2 * k)])) ∧ kv_an0 (57 + 2 * k) = some 40
theorem kv_st_h {k : Nat} (h : k < 4) : kv_st k := by
  rcases (show k = 0 ∨ k = 1 ∨ k = 2 ∨ k = 3 by omega) with rfl | rfl | rfl | rfl <;> exact ⟨by decide, fun _ _ => rfl, rfl⟩
def kx_nw (b v : Int32) : Int32 := if b = 8 then v.toInt8.toInt32 else if b = 16 then v.toInt16.toInt32 else v
theorem kx_i40 (k j : Nat) : (40 : Int32) * nI k + nI j = nI (40 * k + j) := by
  show nI 40 * nI k + nI j = _
  rw [kx_nmul, kx_nadd]
set_option maxRecDepth 100000 in
theorem ev_sheetAt {E : kv_V} {d : Nat} {g : kv_S} {w : kv_W} (hq : kv_qok w) (k : Nat) (hk : k < 4) : kv_ev E (d + 1) 127 [.ref 0, .int (nI k)] (kv_wd g w) (some (.ref (56 + 2 * k))) (kv_wd g w) := by
  refine kx_ev (d := d + 0) (by decide) (Nat.le_of_ble_eq_true rfl) ?_
  refine kx_st 0 (pc' := 0) (L' := [some (.ref 0), some (.int (nI k))]) (st' := []) (h' := kv_wd g w) rfl ?_
  refine kx_st 1 (pc' := 1) (L' := [some (.ref 0), some (.int (nI k))]) (st' := [.int (nI k)]) (h' := kv_wd g w) rfl ?_
  refine kx_bc (t := 13) rfl rfl (fun (h1 : nI k < 0) => ?_) (fun (h1 : ¬ (nI k < 0)) => ?_)
  · exact absurd h1 (nI_pos (by omega))
  · refine kx_st 0 (pc' := 4) (L' := [some (.ref 0), some (.int (nI k))]) (st' := []) (h' := kv_wd g w) rfl ?_
    refine kx_st 4 (pc' := 10) (L' := [some (.ref 0), some (.int (nI k))]) (st' := [.int 4, .int (nI k)]) (h' := kv_wd g w) rfl ?_
    refine kx_bi (t := 17) rfl rfl (fun (h10 : nI k < 4) => ?_) (fun (h10 : ¬ (nI k < 4)) => ?_)
    · refine kx_st 3 (pc' := 22) (L' := [some (.ref 0), some (.int (nI k))]) (st' := [.int (nI k), .ref 55]) (h' := kv_wd g w) rfl ?_
      refine kx_aa (t := 3) (k := k) (b := (56 + 2 * k)) rfl rfl (by decide) (by decide) rfl (by omega) (by decide) (hq.2.2 _ hk) ?_
      refine kx_ret (v := some (.ref (56 + 2 * k))) rfl ?_
      exact ⟨rfl, rfl⟩
    · exact absurd (nI_lt (a := k) (b := 4) hk (by decide)) h10
set_option maxRecDepth 100000 in
theorem ev_sheetAt_n {E : kv_V} {d : Nat} {g : kv_S} {w : kv_W} (v : Int32) (hv : ¬ (0 ≤ v ∧ v ≤ 3)) : kv_ev E (d + 1) 127 [.ref 0, .int v] (kv_wd g w) (some (.null)) (kv_wd g w) := by
  refine kx_ev (d := d + 0) (by decide) (Nat.le_of_ble_eq_true rfl) ?_
  refine kx_st 0 (pc' := 0) (L' := [some (.ref 0), some (.int v)]) (st' := []) (h' := kv_wd g w) rfl ?_
  refine kx_st 1 (pc' := 1) (L' := [some (.ref 0), some (.int v)]) (st' := [.int v]) (h' := kv_wd g w) rfl ?_
  refine kx_bc (t := 13) rfl rfl (fun (h1 : v < 0) => ?_) (fun (h1 : ¬ (v < 0)) => ?_)
  · refine kx_st 2 (pc' := 23) (L' := [some (.ref 0), some (.int v)]) (st' := [.null]) (h' := kv_wd g w) rfl ?_
    refine kx_ret (v := some (.null)) rfl ?_
    exact ⟨rfl, rfl⟩
  · refine kx_st 0 (pc' := 4) (L' := [some (.ref 0), some (.int v)]) (st' := []) (h' := kv_wd g w) rfl ?_
    refine kx_st 4 (pc' := 10) (L' := [some (.ref 0), some (.int v)]) (st' := [.int 4, .int v]) (h' := kv_wd g w) rfl ?_
    refine kx_bi (t := 17) rfl rfl (fun (h10 : v < 4) => ?_) (fun (h10 : ¬ (v < 4)) => ?_)
    · exact absurd ⟨Int32.not_lt.mp h1, (by have h3 : (3 : Int32).toInt = 3 := rfl; have h4 : (4 : Int32).toInt = 4 := rfl; simp only [Int32.lt_iff_toInt_lt, Int32.le_iff_toInt_le] at *; omega)⟩ hv
    · refine kx_st 0 (pc' := 13) (L' := [some (.ref 0), some (.int v)]) (st' := []) (h' := kv_wd g w) rfl ?_
      refine kx_st 2 (pc' := 23) (L' := [some (.ref 0), some (.int v)]) (st' := [.null]) (h' := kv_wd g w) rfl ?_
      refine kx_ret (v := some (.null)) rfl ?_
      exact ⟨rfl, rfl⟩
set_option maxRecDepth 100000 in
theorem ev_lowest {E : kv_V} {d : Nat} {g : kv_S} {w : kv_W} (k : Nat) (hk : k < 4) (v : Int32) : kv_ev E (d + 1) 57 [.ref (56 + 2 * k), .int v] (kv_wd g w) (some (.int (kx_nw (g (56 + 2 * k) 0) v))) (kv_wd g w) := by
  refine kx_ev (d := d + 0) (by decide) (Nat.le_of_ble_eq_true rfl) ?_
  refine kx_st 0 (pc' := 0) (L' := [some (.ref (56 + 2 * k)), some (.int v)]) (st' := []) (h' := kv_wd g w) rfl ?_
  refine kx_st 1 (pc' := 1) (L' := [some (.ref (56 + 2 * k)), some (.int v)]) (st' := [.ref (56 + 2 * k)]) (h' := kv_wd g w) rfl ?_
  refine kx_gf (i := 7) (k := 0) (v := .int (g (56 + 2 * k) 0)) rfl rfl (by have := (kv_st_h hk).1; omega) ((kv_st_h hk).2.1 _ _) rfl ?_
  refine kx_st 1 (pc' := 6) (L' := [some (.ref (56 + 2 * k)), some (.int v)]) (st' := [.int 8, .int (g (56 + 2 * k) 0)]) (h' := kv_wd g w) rfl ?_
  refine kx_bi (t := 12) rfl rfl (fun (h6 : ¬ g (56 + 2 * k) 0 = 8) => ?_) (fun (h6 : ¬ (¬ g (56 + 2 * k) 0 = 8)) => ?_)
  · refine kx_st 1 (pc' := 13) (L' := [some (.ref (56 + 2 * k)), some (.int v)]) (st' := [.ref (56 + 2 * k)]) (h' := kv_wd g w) rfl ?_
    refine kx_gf (i := 7) (k := 0) (v := .int (g (56 + 2 * k) 0)) rfl rfl (by have := (kv_st_h hk).1; omega) ((kv_st_h hk).2.1 _ _) rfl ?_
    refine kx_st 1 (pc' := 18) (L' := [some (.ref (56 + 2 * k)), some (.int v)]) (st' := [.int 16, .int (g (56 + 2 * k) 0)]) (h' := kv_wd g w) rfl ?_
    refine kx_bi (t := 26) rfl rfl (fun (h18 : ¬ g (56 + 2 * k) 0 = 16) => ?_) (fun (h18 : ¬ (¬ g (56 + 2 * k) 0 = 16)) => ?_)
    · refine kx_st 1 (pc' := 27) (L' := [some (.ref (56 + 2 * k)), some (.int v)]) (st' := [.int v]) (h' := kv_wd g w) rfl ?_
      refine kx_ret (v := some (.int v)) rfl ?_
      exact ⟨by unfold kx_nw; grind, rfl⟩
    · refine kx_st 0 (pc' := 21) (L' := [some (.ref (56 + 2 * k)), some (.int v)]) (st' := []) (h' := kv_wd g w) rfl ?_
      refine kx_st 3 (pc' := 27) (L' := [some (.ref (56 + 2 * k)), some (.int v)]) (st' := [.int v.toInt16.toInt32]) (h' := kv_wd g w) rfl ?_
      refine kx_ret (v := some (.int v.toInt16.toInt32)) rfl ?_
      exact ⟨by unfold kx_nw; grind, rfl⟩
  · refine kx_st 0 (pc' := 9) (L' := [some (.ref (56 + 2 * k)), some (.int v)]) (st' := []) (h' := kv_wd g w) rfl ?_
    refine kx_st 2 (pc' := 11) (L' := [some (.ref (56 + 2 * k)), some (.int v)]) (st' := [.int v.toInt8.toInt32]) (h' := kv_wd g w) rfl ?_
    refine kx_ret (v := some (.int v.toInt8.toInt32)) rfl ?_
    exact ⟨by unfold kx_nw; grind, rfl⟩
set_option maxRecDepth 100000 in
theorem ev_narrow {E : kv_V} {d : Nat} {g : kv_S} {w : kv_W} (b v : Int32) : kv_ev E (d + 1) 210 [.int b, .int v] (kv_wd g w) (some (.int (kx_nw b v))) (kv_wd g w) := by
  refine kx_ev (d := d + 0) (by decide) (Nat.le_of_ble_eq_true rfl) ?_
  refine kx_st 0 (pc' := 0) (L' := [some (.int b), some (.int v)]) (st' := []) (h' := kv_wd g w) rfl ?_
  refine kx_st 2 (pc' := 3) (L' := [some (.int b), some (.int v)]) (st' := [.int 8, .int b]) (h' := kv_wd g w) rfl ?_
  refine kx_bi (t := 11) rfl rfl (fun (h3 : ¬ b = 8) => ?_) (fun (h3 : ¬ (¬ b = 8)) => ?_)
  · refine kx_st 2 (pc' := 14) (L' := [some (.int b), some (.int v)]) (st' := [.int 16, .int b]) (h' := kv_wd g w) rfl ?_
    refine kx_bi (t := 22) rfl rfl (fun (h14 : ¬ b = 16) => ?_) (fun (h14 : ¬ (¬ b = 16)) => ?_)
    · refine kx_st 1 (pc' := 23) (L' := [some (.int b), some (.int v)]) (st' := [.int v]) (h' := kv_wd g w) rfl ?_
      refine kx_ret (v := some (.int v)) rfl ?_
      exact ⟨by unfold kx_nw; grind, rfl⟩
    · refine kx_st 0 (pc' := 17) (L' := [some (.int b), some (.int v)]) (st' := []) (h' := kv_wd g w) rfl ?_
      refine kx_st 3 (pc' := 23) (L' := [some (.int b), some (.int v)]) (st' := [.int v.toInt16.toInt32]) (h' := kv_wd g w) rfl ?_
      refine kx_ret (v := some (.int v.toInt16.toInt32)) rfl ?_
      exact ⟨by unfold kx_nw; grind, rfl⟩
  · refine kx_st 0 (pc' := 6) (L' := [some (.int b), some (.int v)]) (st' := []) (h' := kv_wd g w) rfl ?_
    refine kx_st 3 (pc' := 23) (L' := [some (.int b), some (.int v)]) (st' := [.int v.toInt8.toInt32]) (h' := kv_wd g w) rfl ?_
    refine kx_ret (v := some (.int v.toInt8.toInt32)) rfl ?_
    exact ⟨by unfold kx_nw; grind, rfl⟩
set_option maxRecDepth 100000 in
theorem ev_isSheet {E : kv_V} {d : Nat} {g : kv_S} {w : kv_W} (v : Int32) : kv_ev E (d + 2) 200 [.int v] (kv_wd g w) (some (.int (kx_b (0 ≤ v ∧ v ≤ 3)))) (kv_wd g w) := by
  refine kx_ev (d := d + 1) (by decide) (Nat.le_of_ble_eq_true rfl) ?_
  refine kx_st 0 (pc' := 0) (L' := [some (.int v)]) (st' := []) (h' := kv_wd g w) rfl ?_
  refine kx_st 3 (pc' := 3) (L' := [some (.int v)]) (st' := [.int 3, .int 0, .int v]) (h' := kv_wd g w) rfl ?_
  refine kx_call (z := 130) (as := [.int v, .int 0, .int 3]) (rest := []) (v := some (.int (kx_b (0 ≤ v ∧ v ≤ 3)))) (h1 := kv_wd g w) rfl (ev_in (d := d) v 0 3) ?_
  refine kx_st 0 (pc' := 6) (L' := [some (.int v)]) (st' := [.int (kx_b (0 ≤ v ∧ v ≤ 3))]) (h' := kv_wd g w) rfl ?_
  refine kx_retb rfl rfl ?_
  exact ⟨rfl, rfl⟩
set_option maxRecDepth 100000 in
theorem ev_x_put {E : kv_V} {d : Nat} {g : kv_S} {w : kv_W} (hq : kv_qok w) (k : Nat) (hk : k < 4) (hb : ¬ g (56 + 2 * k) 0 = 0) (n j : Nat) (hn : g (56 + 2 * k) 1 = nI n) (hj : j < n) (h40 : n ≤ 40) (v : Int32) : kv_ev E (d + 2) 113 [.ref 0, .int (nI k), .int (nI j), .int v] (kv_wd g w) (some (.int 1)) (kv_wd (kv_up g (57 + 2 * k) j (kx_nw (g (56 + 2 * k) 0) v)) w) := by
  refine kx_ev (d := d + 1) (by decide) (Nat.le_of_ble_eq_true rfl) ?_
  refine kx_st 0 (pc' := 0) (L' := [some (.ref 0), some (.int (nI k)), some (.int (nI j)), some (.int v), none]) (st' := []) (h' := kv_wd g w) rfl ?_
  refine kx_st 2 (pc' := 2) (L' := [some (.ref 0), some (.int (nI k)), some (.int (nI j)), some (.int v), none]) (st' := [.int (nI k), .ref 0]) (h' := kv_wd g w) rfl ?_
  refine kx_call (z := 127) (as := [.ref 0, .int (nI k)]) (rest := []) (v := some (.ref (56 + 2 * k))) (h1 := kv_wd g w) rfl (ev_sheetAt (d := d) hq k hk) ?_
  refine kx_st 0 (pc' := 5) (L' := [some (.ref 0), some (.int (nI k)), some (.int (nI j)), some (.int v), none]) (st' := [.ref (56 + 2 * k)]) (h' := kv_wd g w) rfl ?_
  refine kx_st 2 (pc' := 9) (L' := [some (.ref 0), some (.int (nI k)), some (.int (nI j)), some (.int v), some (.ref (56 + 2 * k))]) (st' := [.ref (56 + 2 * k)]) (h' := kv_wd g w) rfl ?_
  refine kx_st 1 (pc' := 18) (L' := [some (.ref 0), some (.int (nI k)), some (.int (nI j)), some (.int v), some (.ref (56 + 2 * k))]) (st' := []) (h' := kv_wd g w) rfl ?_
  refine kx_st 1 (pc' := 20) (L' := [some (.ref 0), some (.int (nI k)), some (.int (nI j)), some (.int v), some (.ref (56 + 2 * k))]) (st' := [.ref (56 + 2 * k)]) (h' := kv_wd g w) rfl ?_
  refine kx_gf (i := 254) (k := 0) (v := .int (g (56 + 2 * k) 0)) rfl rfl (by have := (kv_st_h hk).1; omega) ((kv_st_h hk).2.1 _ _) rfl ?_
  refine kx_bc (t := 32) rfl rfl (fun (h23 : ¬ g (56 + 2 * k) 0 = 0) => ?_) (fun (h23 : ¬ (¬ g (56 + 2 * k) 0 = 0)) => ?_)
  · refine kx_st 1 (pc' := 33) (L' := [some (.ref 0), some (.int (nI k)), some (.int (nI j)), some (.int v), some (.ref (56 + 2 * k))]) (st' := [.int (nI j)]) (h' := kv_wd g w) rfl ?_
    refine kx_bc (t := 45) rfl rfl (fun (h33 : nI j < 0) => ?_) (fun (h33 : ¬ (nI j < 0)) => ?_)
    · exact absurd h33 (nI_pos (by omega))
    · refine kx_st 0 (pc' := 36) (L' := [some (.ref 0), some (.int (nI k)), some (.int (nI j)), some (.int v), some (.ref (56 + 2 * k))]) (st' := []) (h' := kv_wd g w) rfl ?_
      refine kx_st 2 (pc' := 39) (L' := [some (.ref 0), some (.int (nI k)), some (.int (nI j)), some (.int v), some (.ref (56 + 2 * k))]) (st' := [.ref (56 + 2 * k), .int (nI j)]) (h' := kv_wd g w) rfl ?_
      refine kx_gf (i := 257) (k := 1) (v := .int (g (56 + 2 * k) 1)) rfl rfl (by have := (kv_st_h hk).1; omega) ((kv_st_h hk).2.1 _ _) rfl ?_
      refine kx_bi (t := 51) rfl rfl (fun (h42 : nI j < g (56 + 2 * k) 1) => ?_) (fun (h42 : ¬ (nI j < g (56 + 2 * k) 1)) => ?_)
      · refine kx_st 1 (pc' := 53) (L' := [some (.ref 0), some (.int (nI k)), some (.int (nI j)), some (.int v), some (.ref (56 + 2 * k))]) (st' := [.ref (56 + 2 * k)]) (h' := kv_wd g w) rfl ?_
        refine kx_gf (i := 263) (k := 2) (v := .ref (57 + 2 * k)) rfl rfl (by have := (kv_st_h hk).1; omega) ((kv_st_h hk).2.1 _ _) rfl ?_
        refine kx_st 3 (pc' := 60) (L' := [some (.ref 0), some (.int (nI k)), some (.int (nI j)), some (.int v), some (.ref (56 + 2 * k))]) (st' := [.int v, .ref (56 + 2 * k), .int (nI j), .ref (57 + 2 * k)]) (h' := kv_wd g w) rfl ?_
        refine kx_call (z := 57) (as := [.ref (56 + 2 * k), .int v]) (rest := [.int (nI j), .ref (57 + 2 * k)]) (v := some (.int (kx_nw (g (56 + 2 * k) 0) v))) (h1 := kv_wd g w) (kx_cv (b := 56 + 2 * k) (A := [.int v]) (rest := [.int (nI j), .ref (57 + 2 * k)]) rfl rfl rfl rfl (Nat.le_of_ble_eq_true rfl) (by have := (kv_st_h hk).1; omega) ((kv_st_h hk).2.1 _ _)) (ev_lowest (d := d) k hk v) ?_
        refine kx_st 0 (pc' := 63) (L' := [some (.ref 0), some (.int (nI k)), some (.int (nI j)), some (.int v), some (.ref (56 + 2 * k))]) (st' := [.int (kx_nw (g (56 + 2 * k) 0) v), .int (nI j), .ref (57 + 2 * k)]) (h' := kv_wd g w) rfl ?_
        refine kx_is (k := j) rfl (kv_st_h hk).2.2 (kv_st_h hk).1 rfl (by omega) (by decide) ?_
        refine kx_st 1 (pc' := 65) (L' := [some (.ref 0), some (.int (nI k)), some (.int (nI j)), some (.int v), some (.ref (56 + 2 * k))]) (st' := [.int 1]) (h' := kv_wd (kv_up g (57 + 2 * k) j (kx_nw (g (56 + 2 * k) 0) v)) w) rfl ?_
        refine kx_ret (v := some (.int 1)) rfl ?_
        exact ⟨rfl, rfl⟩
      · exact absurd (by rw [hn]; exact nI_lt hj (by omega)) h42
  · exact absurd (Classical.not_not.mp h23) hb
set_option maxRecDepth 100000 in
theorem ev_x_put_n {E : kv_V} {d : Nat} {g : kv_S} {w : kv_W} (z i v : Int32) (hv : ¬ (0 ≤ z ∧ z ≤ 3)) : kv_ev E (d + 2) 113 [.ref 0, .int z, .int i, .int v] (kv_wd g w) (some (.int (-1000000000 - nI 1))) (kv_wd (kv_up g 64 1 (g 64 1 + 1)) w) := by
  refine kx_ev (d := d + 1) (by decide) (Nat.le_of_ble_eq_true rfl) ?_
  refine kx_st 0 (pc' := 0) (L' := [some (.ref 0), some (.int z), some (.int i), some (.int v), none]) (st' := []) (h' := kv_wd g w) rfl ?_
  refine kx_st 2 (pc' := 2) (L' := [some (.ref 0), some (.int z), some (.int i), some (.int v), none]) (st' := [.int z, .ref 0]) (h' := kv_wd g w) rfl ?_
  refine kx_call (z := 127) (as := [.ref 0, .int z]) (rest := []) (v := some (.null)) (h1 := kv_wd g w) rfl (ev_sheetAt_n (d := d) z hv) ?_
  refine kx_st 0 (pc' := 5) (L' := [some (.ref 0), some (.int z), some (.int i), some (.int v), none]) (st' := [.null]) (h' := kv_wd g w) rfl ?_
  refine kx_st 2 (pc' := 9) (L' := [some (.ref 0), some (.int z), some (.int i), some (.int v), some (.null)]) (st' := [.null]) (h' := kv_wd g w) rfl ?_
  refine kx_st 1 (pc' := 12) (L' := [some (.ref 0), some (.int z), some (.int i), some (.int v), some (.null)]) (st' := []) (h' := kv_wd g w) rfl ?_
  refine kx_st 2 (pc' := 14) (L' := [some (.ref 0), some (.int z), some (.int i), some (.int v), some (.null)]) (st' := [.int 1, .ref 0]) (h' := kv_wd g w) rfl ?_
  refine kx_call (z := 123) (as := [.ref 0, .int 1]) (rest := []) (v := some (.int (-1000000000 - nI 1))) (h1 := kv_wd (kv_up g 64 1 (g 64 1 + 1)) w) rfl (ev_error (d := d) 1 (by decide) (by decide)) ?_
  refine kx_st 0 (pc' := 17) (L' := [some (.ref 0), some (.int z), some (.int i), some (.int v), some (.null)]) (st' := [.int (-1000000000 - nI 1)]) (h' := kv_wd (kv_up g 64 1 (g 64 1 + 1)) w) rfl ?_
  refine kx_ret (v := some (.int (-1000000000 - nI 1))) rfl ?_
  exact ⟨rfl, rfl⟩
set_option maxRecDepth 100000 in
theorem ev_x_put_0 {E : kv_V} {d : Nat} {g : kv_S} {w : kv_W} (hq : kv_qok w) (k : Nat) (hk : k < 4) (hb : g (56 + 2 * k) 0 = 0) (i v : Int32) : kv_ev E (d + 2) 113 [.ref 0, .int (nI k), .int i, .int v] (kv_wd g w) (some (.int (-1000000000 - nI 2))) (kv_wd (kv_up g 64 2 (g 64 2 + 1)) w) := by
  refine kx_ev (d := d + 1) (by decide) (Nat.le_of_ble_eq_true rfl) ?_
  refine kx_st 0 (pc' := 0) (L' := [some (.ref 0), some (.int (nI k)), some (.int i), some (.int v), none]) (st' := []) (h' := kv_wd g w) rfl ?_
  refine kx_st 2 (pc' := 2) (L' := [some (.ref 0), some (.int (nI k)), some (.int i), some (.int v), none]) (st' := [.int (nI k), .ref 0]) (h' := kv_wd g w) rfl ?_
  refine kx_call (z := 127) (as := [.ref 0, .int (nI k)]) (rest := []) (v := some (.ref (56 + 2 * k))) (h1 := kv_wd g w) rfl (ev_sheetAt (d := d) hq k hk) ?_
  refine kx_st 0 (pc' := 5) (L' := [some (.ref 0), some (.int (nI k)), some (.int i), some (.int v), none]) (st' := [.ref (56 + 2 * k)]) (h' := kv_wd g w) rfl ?_
  refine kx_st 2 (pc' := 9) (L' := [some (.ref 0), some (.int (nI k)), some (.int i), some (.int v), some (.ref (56 + 2 * k))]) (st' := [.ref (56 + 2 * k)]) (h' := kv_wd g w) rfl ?_
  refine kx_st 1 (pc' := 18) (L' := [some (.ref 0), some (.int (nI k)), some (.int i), some (.int v), some (.ref (56 + 2 * k))]) (st' := []) (h' := kv_wd g w) rfl ?_
  refine kx_st 1 (pc' := 20) (L' := [some (.ref 0), some (.int (nI k)), some (.int i), some (.int v), some (.ref (56 + 2 * k))]) (st' := [.ref (56 + 2 * k)]) (h' := kv_wd g w) rfl ?_
  refine kx_gf (i := 254) (k := 0) (v := .int (g (56 + 2 * k) 0)) rfl rfl (by have := (kv_st_h hk).1; omega) ((kv_st_h hk).2.1 _ _) rfl ?_
  refine kx_bc (t := 32) rfl rfl (fun (h23 : ¬ g (56 + 2 * k) 0 = 0) => ?_) (fun (h23 : ¬ (¬ g (56 + 2 * k) 0 = 0)) => ?_)
  · exact absurd hb h23
  · refine kx_st 0 (pc' := 26) (L' := [some (.ref 0), some (.int (nI k)), some (.int i), some (.int v), some (.ref (56 + 2 * k))]) (st' := []) (h' := kv_wd g w) rfl ?_
    refine kx_st 2 (pc' := 28) (L' := [some (.ref 0), some (.int (nI k)), some (.int i), some (.int v), some (.ref (56 + 2 * k))]) (st' := [.int 2, .ref 0]) (h' := kv_wd g w) rfl ?_
    refine kx_call (z := 123) (as := [.ref 0, .int 2]) (rest := []) (v := some (.int (-1000000000 - nI 2))) (h1 := kv_wd (kv_up g 64 2 (g 64 2 + 1)) w) rfl (ev_error (d := d) 2 (by decide) (by decide)) ?_
    refine kx_st 0 (pc' := 31) (L' := [some (.ref 0), some (.int (nI k)), some (.int i), some (.int v), some (.ref (56 + 2 * k))]) (st' := [.int (-1000000000 - nI 2)]) (h' := kv_wd (kv_up g 64 2 (g 64 2 + 1)) w) rfl ?_
    refine kx_ret (v := some (.int (-1000000000 - nI 2))) rfl ?_
    exact ⟨rfl, rfl⟩
set_option maxRecDepth 100000 in
theorem ev_x_put_b {E : kv_V} {d : Nat} {g : kv_S} {w : kv_W} (hq : kv_qok w) (k : Nat) (hk : k < 4) (hb : ¬ g (56 + 2 * k) 0 = 0) (i v : Int32) (hi : ¬ (0 ≤ i ∧ i < g (56 + 2 * k) 1)) : kv_ev E (d + 2) 113 [.ref 0, .int (nI k), .int i, .int v] (kv_wd g w) (some (.int (-1000000000 - nI 1))) (kv_wd (kv_up g 64 1 (g 64 1 + 1)) w) := by
  refine kx_ev (d := d + 1) (by decide) (Nat.le_of_ble_eq_true rfl) ?_
  refine kx_st 0 (pc' := 0) (L' := [some (.ref 0), some (.int (nI k)), some (.int i), some (.int v), none]) (st' := []) (h' := kv_wd g w) rfl ?_
  refine kx_st 2 (pc' := 2) (L' := [some (.ref 0), some (.int (nI k)), some (.int i), some (.int v), none]) (st' := [.int (nI k), .ref 0]) (h' := kv_wd g w) rfl ?_
  refine kx_call (z := 127) (as := [.ref 0, .int (nI k)]) (rest := []) (v := some (.ref (56 + 2 * k))) (h1 := kv_wd g w) rfl (ev_sheetAt (d := d) hq k hk) ?_
  refine kx_st 0 (pc' := 5) (L' := [some (.ref 0), some (.int (nI k)), some (.int i), some (.int v), none]) (st' := [.ref (56 + 2 * k)]) (h' := kv_wd g w) rfl ?_
  refine kx_st 2 (pc' := 9) (L' := [some (.ref 0), some (.int (nI k)), some (.int i), some (.int v), some (.ref (56 + 2 * k))]) (st' := [.ref (56 + 2 * k)]) (h' := kv_wd g w) rfl ?_
  refine kx_st 1 (pc' := 18) (L' := [some (.ref 0), some (.int (nI k)), some (.int i), some (.int v), some (.ref (56 + 2 * k))]) (st' := []) (h' := kv_wd g w) rfl ?_
  refine kx_st 1 (pc' := 20) (L' := [some (.ref 0), some (.int (nI k)), some (.int i), some (.int v), some (.ref (56 + 2 * k))]) (st' := [.ref (56 + 2 * k)]) (h' := kv_wd g w) rfl ?_
  refine kx_gf (i := 254) (k := 0) (v := .int (g (56 + 2 * k) 0)) rfl rfl (by have := (kv_st_h hk).1; omega) ((kv_st_h hk).2.1 _ _) rfl ?_
  refine kx_bc (t := 32) rfl rfl (fun (h23 : ¬ g (56 + 2 * k) 0 = 0) => ?_) (fun (h23 : ¬ (¬ g (56 + 2 * k) 0 = 0)) => ?_)
  · refine kx_st 1 (pc' := 33) (L' := [some (.ref 0), some (.int (nI k)), some (.int i), some (.int v), some (.ref (56 + 2 * k))]) (st' := [.int i]) (h' := kv_wd g w) rfl ?_
    refine kx_bc (t := 45) rfl rfl (fun (h33 : i < 0) => ?_) (fun (h33 : ¬ (i < 0)) => ?_)
    · refine kx_st 2 (pc' := 47) (L' := [some (.ref 0), some (.int (nI k)), some (.int i), some (.int v), some (.ref (56 + 2 * k))]) (st' := [.int 1, .ref 0]) (h' := kv_wd g w) rfl ?_
      refine kx_call (z := 123) (as := [.ref 0, .int 1]) (rest := []) (v := some (.int (-1000000000 - nI 1))) (h1 := kv_wd (kv_up g 64 1 (g 64 1 + 1)) w) rfl (ev_error (d := d) 1 (by decide) (by decide)) ?_
      refine kx_st 0 (pc' := 50) (L' := [some (.ref 0), some (.int (nI k)), some (.int i), some (.int v), some (.ref (56 + 2 * k))]) (st' := [.int (-1000000000 - nI 1)]) (h' := kv_wd (kv_up g 64 1 (g 64 1 + 1)) w) rfl ?_
      refine kx_ret (v := some (.int (-1000000000 - nI 1))) rfl ?_
      exact ⟨rfl, rfl⟩
    · refine kx_st 0 (pc' := 36) (L' := [some (.ref 0), some (.int (nI k)), some (.int i), some (.int v), some (.ref (56 + 2 * k))]) (st' := []) (h' := kv_wd g w) rfl ?_
      refine kx_st 2 (pc' := 39) (L' := [some (.ref 0), some (.int (nI k)), some (.int i), some (.int v), some (.ref (56 + 2 * k))]) (st' := [.ref (56 + 2 * k), .int i]) (h' := kv_wd g w) rfl ?_
      refine kx_gf (i := 257) (k := 1) (v := .int (g (56 + 2 * k) 1)) rfl rfl (by have := (kv_st_h hk).1; omega) ((kv_st_h hk).2.1 _ _) rfl ?_
      refine kx_bi (t := 51) rfl rfl (fun (h42 : i < g (56 + 2 * k) 1) => ?_) (fun (h42 : ¬ (i < g (56 + 2 * k) 1)) => ?_)
      · exact absurd ⟨Int32.not_lt.mp h33, h42⟩ hi
      · refine kx_st 0 (pc' := 45) (L' := [some (.ref 0), some (.int (nI k)), some (.int i), some (.int v), some (.ref (56 + 2 * k))]) (st' := []) (h' := kv_wd g w) rfl ?_
        refine kx_st 2 (pc' := 47) (L' := [some (.ref 0), some (.int (nI k)), some (.int i), some (.int v), some (.ref (56 + 2 * k))]) (st' := [.int 1, .ref 0]) (h' := kv_wd g w) rfl ?_
        refine kx_call (z := 123) (as := [.ref 0, .int 1]) (rest := []) (v := some (.int (-1000000000 - nI 1))) (h1 := kv_wd (kv_up g 64 1 (g 64 1 + 1)) w) rfl (ev_error (d := d) 1 (by decide) (by decide)) ?_
        refine kx_st 0 (pc' := 50) (L' := [some (.ref 0), some (.int (nI k)), some (.int i), some (.int v), some (.ref (56 + 2 * k))]) (st' := [.int (-1000000000 - nI 1)]) (h' := kv_wd (kv_up g 64 1 (g 64 1 + 1)) w) rfl ?_
        refine kx_ret (v := some (.int (-1000000000 - nI 1))) rfl ?_
        exact ⟨rfl, rfl⟩
  · exact absurd (Classical.not_not.mp h23) hb
set_option maxRecDepth 100000 in
theorem ev_m_put {E : kv_V} {d : Nat} {g : kv_S} {w : kv_W} (k : Nat) (hk : k < 4) (hb : ¬ g 71 k = 0) (j : Nat) (hj : 0 ≤ nI j ∧ nI j ≤ g 72 k - 1) (h40 : j < 40) (v : Int32) : kv_ev E (d + 3) 212 [.ref 65, .int (nI k), .int (nI j), .int v] (kv_wd g w) (some (.int 1)) (kv_wd (kv_up g 73 (40 * k + j) (kx_nw (g 71 k) v)) w) := by
  refine kx_ev (d := d + 2) (by decide) (Nat.le_of_ble_eq_true rfl) ?_
  refine kx_st 0 (pc' := 0) (L' := [some (.ref 65), some (.int (nI k)), some (.int (nI j)), some (.int v)]) (st' := []) (h' := kv_wd g w) rfl ?_
  refine kx_st 1 (pc' := 1) (L' := [some (.ref 65), some (.int (nI k)), some (.int (nI j)), some (.int v)]) (st' := [.int (nI k)]) (h' := kv_wd g w) rfl ?_
  refine kx_call (z := 200) (as := [.int (nI k)]) (rest := []) (v := some (.int (kx_b (0 ≤ nI k ∧ nI k ≤ 3)))) (h1 := kv_wd g w) rfl (ev_isSheet (d := d) (nI k)) ?_
  refine kx_st 0 (pc' := 4) (L' := [some (.ref 65), some (.int (nI k)), some (.int (nI j)), some (.int v)]) (st' := [.int (kx_b (0 ≤ nI k ∧ nI k ≤ 3))]) (h' := kv_wd g w) rfl ?_
  refine kx_bn (t := 14) rfl rfl (fun (h4 : (0 ≤ nI k ∧ nI k ≤ 3)) => ?_) (fun (h4 : ¬ (0 ≤ nI k ∧ nI k ≤ 3)) => ?_)
  · refine kx_st 3 (pc' := 19) (L' := [some (.ref 65), some (.int (nI k)), some (.int (nI j)), some (.int v)]) (st' := [.int (nI k), .ref 71]) (h' := kv_wd g w) rfl ?_
    refine kx_ia (k := k) rfl rfl (by decide) rfl (by omega) (by decide) ?_
    refine kx_bc (t := 30) rfl rfl (fun (h20 : ¬ g 71 k = 0) => ?_) (fun (h20 : ¬ (¬ g 71 k = 0)) => ?_)
    · refine kx_st 5 (pc' := 37) (L' := [some (.ref 65), some (.int (nI k)), some (.int (nI j)), some (.int v)]) (st' := [.int (nI k), .ref 72, .int 0, .int (nI j)]) (h' := kv_wd g w) rfl ?_
      refine kx_ia (k := k) rfl rfl (by decide) rfl (by omega) (by decide) ?_
      refine kx_st 2 (pc' := 40) (L' := [some (.ref 65), some (.int (nI k)), some (.int (nI j)), some (.int v)]) (st' := [.int ((g 72 k) - 1), .int 0, .int (nI j)]) (h' := kv_wd g w) rfl ?_
      refine kx_call (z := 130) (as := [.int (nI j), .int 0, .int ((g 72 k) - 1)]) (rest := []) (v := some (.int (kx_b (0 ≤ nI j ∧ nI j ≤ (g 72 k) - 1)))) (h1 := kv_wd g w) rfl (ev_in (d := d + 1) (nI j) 0 ((g 72 k) - 1)) ?_
      refine kx_st 0 (pc' := 43) (L' := [some (.ref 65), some (.int (nI k)), some (.int (nI j)), some (.int v)]) (st' := [.int (kx_b (0 ≤ nI j ∧ nI j ≤ (g 72 k) - 1))]) (h' := kv_wd g w) rfl ?_
      refine kx_bn (t := 53) rfl rfl (fun (h43 : (0 ≤ nI j ∧ nI j ≤ (g 72 k) - 1)) => ?_) (fun (h43 : ¬ (0 ≤ nI j ∧ nI j ≤ (g 72 k) - 1)) => ?_)
      · refine kx_st 10 (pc' := 68) (L' := [some (.ref 65), some (.int (nI k)), some (.int (nI j)), some (.int v)]) (st' := [.int (nI k), .ref 71, .int ((40 * (nI k)) + (nI j)), .ref 73]) (h' := kv_wd g w) rfl ?_
        refine kx_ia (k := k) rfl rfl (by decide) rfl (by omega) (by decide) ?_
        refine kx_st 1 (pc' := 70) (L' := [some (.ref 65), some (.int (nI k)), some (.int (nI j)), some (.int v)]) (st' := [.int v, .int (g 71 k), .int ((40 * (nI k)) + (nI j)), .ref 73]) (h' := kv_wd g w) rfl ?_
        refine kx_call (z := 210) (as := [.int (g 71 k), .int v]) (rest := [.int ((40 * (nI k)) + (nI j)), .ref 73]) (v := some (.int (kx_nw (g 71 k) v))) (h1 := kv_wd g w) rfl (ev_narrow (d := d + 1) (g 71 k) v) ?_
        refine kx_st 0 (pc' := 73) (L' := [some (.ref 65), some (.int (nI k)), some (.int (nI j)), some (.int v)]) (st' := [.int (kx_nw (g 71 k) v), .int ((40 * (nI k)) + (nI j)), .ref 73]) (h' := kv_wd g w) rfl ?_
        refine kx_is (k := (40 * k + j)) rfl rfl (by decide) (kx_i40 k j) (by omega) (by decide) ?_
        refine kx_st 1 (pc' := 75) (L' := [some (.ref 65), some (.int (nI k)), some (.int (nI j)), some (.int v)]) (st' := [.int 1]) (h' := kv_wd (kv_up g 73 (40 * k + j) (kx_nw (g 71 k) v)) w) rfl ?_
        refine kx_ret (v := some (.int 1)) rfl ?_
        exact ⟨rfl, rfl⟩
      · exact absurd hj h43
    · exact absurd (Classical.not_not.mp h20) hb
  · exact absurd (by rw [show (0 : Int32) = nI 0 from rfl]; exact ⟨nI_le (by omega) (by omega), nI_le (a := k) (b := 3) (by omega) (by omega)⟩) h4
set_option maxRecDepth 100000 in
theorem ev_m_put_n {E : kv_V} {d : Nat} {g : kv_S} {w : kv_W} (z i v : Int32) (hv : ¬ (0 ≤ z ∧ z ≤ 3)) : kv_ev E (d + 3) 212 [.ref 65, .int z, .int i, .int v] (kv_wd g w) (some (.int (-1000000001))) (kv_wd (kv_up g 70 1 (g 70 1 + 1)) w) := by
  refine kx_ev (d := d + 2) (by decide) (Nat.le_of_ble_eq_true rfl) ?_
  refine kx_st 0 (pc' := 0) (L' := [some (.ref 65), some (.int z), some (.int i), some (.int v)]) (st' := []) (h' := kv_wd g w) rfl ?_
  refine kx_st 1 (pc' := 1) (L' := [some (.ref 65), some (.int z), some (.int i), some (.int v)]) (st' := [.int z]) (h' := kv_wd g w) rfl ?_
  refine kx_call (z := 200) (as := [.int z]) (rest := []) (v := some (.int (kx_b (0 ≤ z ∧ z ≤ 3)))) (h1 := kv_wd g w) rfl (ev_isSheet (d := d) z) ?_
  refine kx_st 0 (pc' := 4) (L' := [some (.ref 65), some (.int z), some (.int i), some (.int v)]) (st' := [.int (kx_b (0 ≤ z ∧ z ≤ 3))]) (h' := kv_wd g w) rfl ?_
  refine kx_bn (t := 14) rfl rfl (fun (h4 : (0 ≤ z ∧ z ≤ 3)) => ?_) (fun (h4 : ¬ (0 ≤ z ∧ z ≤ 3)) => ?_)
  · exact absurd h4 hv
  · refine kx_st 0 (pc' := 7) (L' := [some (.ref 65), some (.int z), some (.int i), some (.int v)]) (st' := []) (h' := kv_wd g w) rfl ?_
    refine kx_st 2 (pc' := 10) (L' := [some (.ref 65), some (.int z), some (.int i), some (.int v)]) (st' := [.int (-1000000001), .ref 65]) (h' := kv_wd g w) rfl ?_
    refine kx_call (z := 131) (as := [.ref 65, .int (-1000000001)]) (rest := []) (v := some (.int (-1000000001))) (h1 := kv_wd (kv_up g 70 1 (g 70 1 + 1)) w) rfl (ev_errs (d := d + 1) (-1000000001) 1 (by decide) (by decide)) ?_
    refine kx_st 0 (pc' := 13) (L' := [some (.ref 65), some (.int z), some (.int i), some (.int v)]) (st' := [.int (-1000000001)]) (h' := kv_wd (kv_up g 70 1 (g 70 1 + 1)) w) rfl ?_
    refine kx_ret (v := some (.int (-1000000001))) rfl ?_
    exact ⟨rfl, rfl⟩
set_option maxRecDepth 100000 in
theorem ev_m_put_0 {E : kv_V} {d : Nat} {g : kv_S} {w : kv_W} (k : Nat) (hk : k < 4) (hb : g 71 k = 0) (i v : Int32) : kv_ev E (d + 3) 212 [.ref 65, .int (nI k), .int i, .int v] (kv_wd g w) (some (.int (-1000000002))) (kv_wd (kv_up g 70 2 (g 70 2 + 1)) w) := by
  refine kx_ev (d := d + 2) (by decide) (Nat.le_of_ble_eq_true rfl) ?_
  refine kx_st 0 (pc' := 0) (L' := [some (.ref 65), some (.int (nI k)), some (.int i), some (.int v)]) (st' := []) (h' := kv_wd g w) rfl ?_
  refine kx_st 1 (pc' := 1) (L' := [some (.ref 65), some (.int (nI k)), some (.int i), some (.int v)]) (st' := [.int (nI k)]) (h' := kv_wd g w) rfl ?_
  refine kx_call (z := 200) (as := [.int (nI k)]) (rest := []) (v := some (.int (kx_b (0 ≤ nI k ∧ nI k ≤ 3)))) (h1 := kv_wd g w) rfl (ev_isSheet (d := d) (nI k)) ?_
  refine kx_st 0 (pc' := 4) (L' := [some (.ref 65), some (.int (nI k)), some (.int i), some (.int v)]) (st' := [.int (kx_b (0 ≤ nI k ∧ nI k ≤ 3))]) (h' := kv_wd g w) rfl ?_
  refine kx_bn (t := 14) rfl rfl (fun (h4 : (0 ≤ nI k ∧ nI k ≤ 3)) => ?_) (fun (h4 : ¬ (0 ≤ nI k ∧ nI k ≤ 3)) => ?_)
  · refine kx_st 3 (pc' := 19) (L' := [some (.ref 65), some (.int (nI k)), some (.int i), some (.int v)]) (st' := [.int (nI k), .ref 71]) (h' := kv_wd g w) rfl ?_
    refine kx_ia (k := k) rfl rfl (by decide) rfl (by omega) (by decide) ?_
    refine kx_bc (t := 30) rfl rfl (fun (h20 : ¬ g 71 k = 0) => ?_) (fun (h20 : ¬ (¬ g 71 k = 0)) => ?_)
    · exact absurd hb h20
    · refine kx_st 0 (pc' := 23) (L' := [some (.ref 65), some (.int (nI k)), some (.int i), some (.int v)]) (st' := []) (h' := kv_wd g w) rfl ?_
      refine kx_st 2 (pc' := 26) (L' := [some (.ref 65), some (.int (nI k)), some (.int i), some (.int v)]) (st' := [.int (-1000000002), .ref 65]) (h' := kv_wd g w) rfl ?_
      refine kx_call (z := 131) (as := [.ref 65, .int (-1000000002)]) (rest := []) (v := some (.int (-1000000002))) (h1 := kv_wd (kv_up g 70 2 (g 70 2 + 1)) w) rfl (ev_errs (d := d + 1) (-1000000002) 2 (by decide) (by decide)) ?_
      refine kx_st 0 (pc' := 29) (L' := [some (.ref 65), some (.int (nI k)), some (.int i), some (.int v)]) (st' := [.int (-1000000002)]) (h' := kv_wd (kv_up g 70 2 (g 70 2 + 1)) w) rfl ?_
      refine kx_ret (v := some (.int (-1000000002))) rfl ?_
      exact ⟨rfl, rfl⟩
  · exact absurd (by rw [show (0 : Int32) = nI 0 from rfl]; exact ⟨nI_le (by omega) (by omega), nI_le (a := k) (b := 3) (by omega) (by omega)⟩) h4
set_option maxRecDepth 100000 in
theorem ev_m_put_b {E : kv_V} {d : Nat} {g : kv_S} {w : kv_W} (k : Nat) (hk : k < 4) (hb : ¬ g 71 k = 0) (i v : Int32) (hi : ¬ (0 ≤ i ∧ i ≤ g 72 k - 1)) : kv_ev E (d + 3) 212 [.ref 65, .int (nI k), .int i, .int v] (kv_wd g w) (some (.int (-1000000001))) (kv_wd (kv_up g 70 1 (g 70 1 + 1)) w) := by
  refine kx_ev (d := d + 2) (by decide) (Nat.le_of_ble_eq_true rfl) ?_
  refine kx_st 0 (pc' := 0) (L' := [some (.ref 65), some (.int (nI k)), some (.int i), some (.int v)]) (st' := []) (h' := kv_wd g w) rfl ?_
  refine kx_st 1 (pc' := 1) (L' := [some (.ref 65), some (.int (nI k)), some (.int i), some (.int v)]) (st' := [.int (nI k)]) (h' := kv_wd g w) rfl ?_
  refine kx_call (z := 200) (as := [.int (nI k)]) (rest := []) (v := some (.int (kx_b (0 ≤ nI k ∧ nI k ≤ 3)))) (h1 := kv_wd g w) rfl (ev_isSheet (d := d) (nI k)) ?_
  refine kx_st 0 (pc' := 4) (L' := [some (.ref 65), some (.int (nI k)), some (.int i), some (.int v)]) (st' := [.int (kx_b (0 ≤ nI k ∧ nI k ≤ 3))]) (h' := kv_wd g w) rfl ?_
  refine kx_bn (t := 14) rfl rfl (fun (h4 : (0 ≤ nI k ∧ nI k ≤ 3)) => ?_) (fun (h4 : ¬ (0 ≤ nI k ∧ nI k ≤ 3)) => ?_)
  · refine kx_st 3 (pc' := 19) (L' := [some (.ref 65), some (.int (nI k)), some (.int i), some (.int v)]) (st' := [.int (nI k), .ref 71]) (h' := kv_wd g w) rfl ?_
    refine kx_ia (k := k) rfl rfl (by decide) rfl (by omega) (by decide) ?_
    refine kx_bc (t := 30) rfl rfl (fun (h20 : ¬ g 71 k = 0) => ?_) (fun (h20 : ¬ (¬ g 71 k = 0)) => ?_)
    · refine kx_st 5 (pc' := 37) (L' := [some (.ref 65), some (.int (nI k)), some (.int i), some (.int v)]) (st' := [.int (nI k), .ref 72, .int 0, .int i]) (h' := kv_wd g w) rfl ?_
      refine kx_ia (k := k) rfl rfl (by decide) rfl (by omega) (by decide) ?_
      refine kx_st 2 (pc' := 40) (L' := [some (.ref 65), some (.int (nI k)), some (.int i), some (.int v)]) (st' := [.int ((g 72 k) - 1), .int 0, .int i]) (h' := kv_wd g w) rfl ?_
      refine kx_call (z := 130) (as := [.int i, .int 0, .int ((g 72 k) - 1)]) (rest := []) (v := some (.int (kx_b (0 ≤ i ∧ i ≤ (g 72 k) - 1)))) (h1 := kv_wd g w) rfl (ev_in (d := d + 1) i 0 ((g 72 k) - 1)) ?_
      refine kx_st 0 (pc' := 43) (L' := [some (.ref 65), some (.int (nI k)), some (.int i), some (.int v)]) (st' := [.int (kx_b (0 ≤ i ∧ i ≤ (g 72 k) - 1))]) (h' := kv_wd g w) rfl ?_
      refine kx_bn (t := 53) rfl rfl (fun (h43 : (0 ≤ i ∧ i ≤ (g 72 k) - 1)) => ?_) (fun (h43 : ¬ (0 ≤ i ∧ i ≤ (g 72 k) - 1)) => ?_)
      · exact absurd h43 hi
      · refine kx_st 0 (pc' := 46) (L' := [some (.ref 65), some (.int (nI k)), some (.int i), some (.int v)]) (st' := []) (h' := kv_wd g w) rfl ?_
        refine kx_st 2 (pc' := 49) (L' := [some (.ref 65), some (.int (nI k)), some (.int i), some (.int v)]) (st' := [.int (-1000000001), .ref 65]) (h' := kv_wd g w) rfl ?_
        refine kx_call (z := 131) (as := [.ref 65, .int (-1000000001)]) (rest := []) (v := some (.int (-1000000001))) (h1 := kv_wd (kv_up g 70 1 (g 70 1 + 1)) w) rfl (ev_errs (d := d + 1) (-1000000001) 1 (by decide) (by decide)) ?_
        refine kx_st 0 (pc' := 52) (L' := [some (.ref 65), some (.int (nI k)), some (.int i), some (.int v)]) (st' := [.int (-1000000001)]) (h' := kv_wd (kv_up g 70 1 (g 70 1 + 1)) w) rfl ?_
        refine kx_ret (v := some (.int (-1000000001))) rfl ?_
        exact ⟨rfl, rfl⟩
    · exact absurd (Classical.not_not.mp h20) hb
  · exact absurd (by rw [show (0 : Int32) = nI 0 from rfl]; exact ⟨nI_le (by omega) (by omega), nI_le (a := k) (b := 3) (by omega) (by omega)⟩) h4
set_option maxRecDepth 100000 in
theorem lp_lay {E : kv_V} {d : Nat} {g : kv_S} {w : kv_W} (k : Nat) (hk : k < 4) (b sz : Int32) {P : Option Value → kv_H → Prop} (hP : P none (kv_wd (kv_uf g (57 + 2 * k) (kx_mv (fun _ => 0) (g (57 + 2 * k)) 40)) w)) : ∀ n j : Nat, j + n = 40 → kx_V E d 56 12 [some (.ref (56 + 2 * k)), some (.int b), some (.int sz), some (.int (nI j))] [] (kv_wd (kv_uf g (57 + 2 * k) (kx_mv (fun _ => 0) (g (57 + 2 * k)) j)) w) P := by
  intro n
  induction n with
  | zero =>
    intro j hkk
    have hkN : j = 40 := by omega
    refine kx_st 2 (pc' := 14) (L' := [some (.ref (56 + 2 * k)), some (.int b), some (.int sz), some (.int (nI j))]) (st' := [.ref (56 + 2 * k), .int (nI j)]) (h' := kv_wd (kv_uf g (57 + 2 * k) (kx_mv (fun _ => 0) (g (57 + 2 * k)) j)) w) rfl ?_
    refine kx_gf (i := 16) (k := 2) (v := .ref (57 + 2 * k)) rfl rfl (by have := (kv_st_h hk).1; omega) ((kv_st_h hk).2.1 _ _) rfl ?_
    refine kx_al (n := 40) rfl (kv_st_h hk).2.2 (kv_st_h hk).1 ?_
    refine kx_bi (t := 34) rfl rfl (fun (h18 : 40 ≤ nI j) => ?_) (fun (h18 : ¬ (40 ≤ nI j)) => ?_)
    · refine kx_ret (v := none) rfl ?_
      subst hkN
      exact hP
    · exact absurd (nI_le (a := 40) (b := j) (by omega) (by omega)) h18
  | succ n ih =>
    intro j hkk
    refine kx_st 2 (pc' := 14) (L' := [some (.ref (56 + 2 * k)), some (.int b), some (.int sz), some (.int (nI j))]) (st' := [.ref (56 + 2 * k), .int (nI j)]) (h' := kv_wd (kv_uf g (57 + 2 * k) (kx_mv (fun _ => 0) (g (57 + 2 * k)) j)) w) rfl ?_
    refine kx_gf (i := 16) (k := 2) (v := .ref (57 + 2 * k)) rfl rfl (by have := (kv_st_h hk).1; omega) ((kv_st_h hk).2.1 _ _) rfl ?_
    refine kx_al (n := 40) rfl (kv_st_h hk).2.2 (kv_st_h hk).1 ?_
    refine kx_bi (t := 34) rfl rfl (fun (h18 : 40 ≤ nI j) => ?_) (fun (h18 : ¬ (40 ≤ nI j)) => ?_)
    · exact absurd h18 (nI_ge (a := j) (b := 40) (by omega) (by omega))
    · refine kx_st 0 (pc' := 21) (L' := [some (.ref (56 + 2 * k)), some (.int b), some (.int sz), some (.int (nI j))]) (st' := []) (h' := kv_wd (kv_uf g (57 + 2 * k) (kx_mv (fun _ => 0) (g (57 + 2 * k)) j)) w) rfl ?_
      refine kx_st 1 (pc' := 22) (L' := [some (.ref (56 + 2 * k)), some (.int b), some (.int sz), some (.int (nI j))]) (st' := [.ref (56 + 2 * k)]) (h' := kv_wd (kv_uf g (57 + 2 * k) (kx_mv (fun _ => 0) (g (57 + 2 * k)) j)) w) rfl ?_
      refine kx_gf (i := 16) (k := 2) (v := .ref (57 + 2 * k)) rfl rfl (by have := (kv_st_h hk).1; omega) ((kv_st_h hk).2.1 _ _) rfl ?_
      refine kx_st 2 (pc' := 27) (L' := [some (.ref (56 + 2 * k)), some (.int b), some (.int sz), some (.int (nI j))]) (st' := [.int 0, .int (nI j), .ref (57 + 2 * k)]) (h' := kv_wd (kv_uf g (57 + 2 * k) (kx_mv (fun _ => 0) (g (57 + 2 * k)) j)) w) rfl ?_
      refine kx_is (k := j) rfl (kv_st_h hk).2.2 (kv_st_h hk).1 rfl (by omega) (by decide) ?_
      refine kx_st 2 (pc' := 12) (L' := [some (.ref (56 + 2 * k)), some (.int b), some (.int sz), some (.int ((nI j) + 1))]) (st' := []) (h' := kv_wd (kv_up (kv_uf g (57 + 2 * k) (kx_mv (fun _ => 0) (g (57 + 2 * k)) j)) (57 + 2 * k) j 0) w) rfl ?_
      rw [show kv_up (kv_uf g (57 + 2 * k) (kx_mv (fun _ => 0) (g (57 + 2 * k)) j)) (57 + 2 * k) j 0 = kv_uf g (57 + 2 * k) (kx_mv (fun _ => 0) (g (57 + 2 * k)) (j + 1)) from kx_mv_up g (57 + 2 * k) j (fun _ => 0) (g (57 + 2 * k)), ← nI_succ]
      exact ih (j + 1) (by omega)
/-- a sheet laid anew -/
def kx_lay (g : kv_S) (k : Nat) (b n : Int32) : kv_S := kv_uf (kv_up (kv_up g (56 + 2 * k) 0 b) (56 + 2 * k) 1 n) (57 + 2 * k) (kx_mv (fun _ => 0) ((kv_up (kv_up g (56 + 2 * k) 0 b) (56 + 2 * k) 1 n) (57 + 2 * k)) 40)
set_option maxRecDepth 100000 in
theorem ev_lay {E : kv_V} {d : Nat} {g : kv_S} {w : kv_W} (k : Nat) (hk : k < 4) (b n : Int32) : kv_ev E (d + 1) 56 [.ref (56 + 2 * k), .int b, .int n] (kv_wd g w) none (kv_wd (kv_uf (kv_up (kv_up g (56 + 2 * k) 0 b) (56 + 2 * k) 1 n) (57 + 2 * k) (kx_mv (fun _ => 0) ((kv_up (kv_up g (56 + 2 * k) 0 b) (56 + 2 * k) 1 n) (57 + 2 * k)) 40)) w) := by
  refine kx_ev (d := d + 0) (by decide) (Nat.le_of_ble_eq_true rfl) ?_
  refine kx_st 0 (pc' := 0) (L' := [some (.ref (56 + 2 * k)), some (.int b), some (.int n), none]) (st' := []) (h' := kv_wd g w) rfl ?_
  refine kx_st 2 (pc' := 2) (L' := [some (.ref (56 + 2 * k)), some (.int b), some (.int n), none]) (st' := [.int b, .ref (56 + 2 * k)]) (h' := kv_wd g w) rfl ?_
  refine kx_pf (i := 7) (k := 0) (x := b) rfl rfl (by have := (kv_st_h hk).1; omega) ((kv_st_h hk).2.1 _ _) (Nat.le_of_ble_eq_true rfl) (by rw [(kv_st_h hk).2.1]; rfl) rfl rfl ?_
  refine kx_st 2 (pc' := 7) (L' := [some (.ref (56 + 2 * k)), some (.int b), some (.int n), none]) (st' := [.int n, .ref (56 + 2 * k)]) (h' := kv_wd (kv_up g (56 + 2 * k) 0 b) w) rfl ?_
  refine kx_pf (i := 13) (k := 1) (x := n) rfl rfl (by have := (kv_st_h hk).1; omega) ((kv_st_h hk).2.1 _ _) (Nat.le_of_ble_eq_true rfl) (by rw [(kv_st_h hk).2.1]; rfl) rfl rfl ?_
  refine kx_st 2 (pc' := 12) (L' := [some (.ref (56 + 2 * k)), some (.int b), some (.int n), some (.int 0)]) (st' := []) (h' := kv_wd (kv_up (kv_up g (56 + 2 * k) 0 b) (56 + 2 * k) 1 n) w) rfl ?_
  have h := lp_lay (E := E) (d := d) (g := kv_up (kv_up g (56 + 2 * k) 0 b) (56 + 2 * k) 1 n) (w := w) k hk b n (P := fun v h' => v = none ∧ h' = kv_wd (kv_uf (kv_up (kv_up g (56 + 2 * k) 0 b) (56 + 2 * k) 1 n) (57 + 2 * k) (kx_mv (fun _ => 0) ((kv_up (kv_up g (56 + 2 * k) 0 b) (56 + 2 * k) 1 n) (57 + 2 * k)) 40)) w) ⟨rfl, rfl⟩ 40 0 (by omega)
  rw [kx_mv_0, kv_uf_id] at h
  exact h
set_option maxRecDepth 100000 in
theorem ev_x_sheet0 {E : kv_V} {d : Nat} {g : kv_S} {w : kv_W} (hq : kv_qok w) (k : Nat) (hk : k < 4) (n : Int32) : kv_ev E (d + 2) 112 [.ref 0, .int (nI k), .int 0, .int n] (kv_wd g w) (some (.int 1)) (kv_wd (kx_lay g k 0 0) w) := by
  refine kx_ev (d := d + 1) (by decide) (Nat.le_of_ble_eq_true rfl) ?_
  refine kx_st 0 (pc' := 0) (L' := [some (.ref 0), some (.int (nI k)), some (.int 0), some (.int n), none]) (st' := []) (h' := kv_wd g w) rfl ?_
  refine kx_st 2 (pc' := 2) (L' := [some (.ref 0), some (.int (nI k)), some (.int 0), some (.int n), none]) (st' := [.int (nI k), .ref 0]) (h' := kv_wd g w) rfl ?_
  refine kx_call (z := 127) (as := [.ref 0, .int (nI k)]) (rest := []) (v := some (.ref (56 + 2 * k))) (h1 := kv_wd g w) rfl (ev_sheetAt (d := d) hq k hk) ?_
  refine kx_st 0 (pc' := 5) (L' := [some (.ref 0), some (.int (nI k)), some (.int 0), some (.int n), none]) (st' := [.ref (56 + 2 * k)]) (h' := kv_wd g w) rfl ?_
  refine kx_st 2 (pc' := 9) (L' := [some (.ref 0), some (.int (nI k)), some (.int 0), some (.int n), some (.ref (56 + 2 * k))]) (st' := [.ref (56 + 2 * k)]) (h' := kv_wd g w) rfl ?_
  refine kx_st 1 (pc' := 12) (L' := [some (.ref 0), some (.int (nI k)), some (.int 0), some (.int n), some (.ref (56 + 2 * k))]) (st' := []) (h' := kv_wd g w) rfl ?_
  refine kx_st 1 (pc' := 13) (L' := [some (.ref 0), some (.int (nI k)), some (.int 0), some (.int n), some (.ref (56 + 2 * k))]) (st' := [.int 0]) (h' := kv_wd g w) rfl ?_
  refine kx_jt (t := 40) rfl rfl (by decide) ?_
  refine kx_st 0 (pc' := 40) (L' := [some (.ref 0), some (.int (nI k)), some (.int 0), some (.int n), some (.ref (56 + 2 * k))]) (st' := []) (h' := kv_wd g w) rfl ?_
  refine kx_st 1 (pc' := 41) (L' := [some (.ref 0), some (.int (nI k)), some (.int 0), some (.int n), some (.ref (56 + 2 * k))]) (st' := [.int 0]) (h' := kv_wd g w) rfl ?_
  refine kx_jf (t := 53) rfl rfl (by decide) ?_
  refine kx_st 0 (pc' := 44) (L' := [some (.ref 0), some (.int (nI k)), some (.int 0), some (.int n), some (.ref (56 + 2 * k))]) (st' := []) (h' := kv_wd g w) rfl ?_
  refine kx_st 3 (pc' := 48) (L' := [some (.ref 0), some (.int (nI k)), some (.int 0), some (.int n), some (.ref (56 + 2 * k))]) (st' := [.int 0, .int 0, .ref (56 + 2 * k)]) (h' := kv_wd g w) rfl ?_
  refine kx_call (z := 56) (as := [.ref (56 + 2 * k), .int 0, .int 0]) (rest := []) (v := none) (h1 := kv_wd (kx_lay g k 0 0) w) (kx_cv (b := 56 + 2 * k) (A := [.int 0, .int 0]) (rest := []) rfl rfl rfl rfl (Nat.le_of_ble_eq_true rfl) (by have := (kv_st_h hk).1; omega) ((kv_st_h hk).2.1 _ _)) (ev_lay (d := d) k hk 0 0) ?_
  refine kx_st 0 (pc' := 51) (L' := [some (.ref 0), some (.int (nI k)), some (.int 0), some (.int n), some (.ref (56 + 2 * k))]) (st' := []) (h' := kv_wd (kx_lay g k 0 0) w) rfl ?_
  refine kx_st 1 (pc' := 52) (L' := [some (.ref 0), some (.int (nI k)), some (.int 0), some (.int n), some (.ref (56 + 2 * k))]) (st' := [.int 1]) (h' := kv_wd (kx_lay g k 0 0) w) rfl ?_
  refine kx_ret (v := some (.int 1)) rfl ?_
  exact ⟨rfl, rfl⟩
set_option maxRecDepth 100000 in
theorem ev_x_sheet {E : kv_V} {d : Nat} {g : kv_S} {w : kv_W} (hq : kv_qok w) (k : Nat) (hk : k < 4) (b : Int32) (hb : b = 8 ∨ b = 16 ∨ b = 32) (n : Int32) (hn : ¬ n < 0) (h40 : n ≤ 40) : kv_ev E (d + 2) 112 [.ref 0, .int (nI k), .int b, .int n] (kv_wd g w) (some (.int 1)) (kv_wd (kx_lay g k b n) w) := by
  refine kx_ev (d := d + 1) (by decide) (Nat.le_of_ble_eq_true rfl) ?_
  refine kx_st 0 (pc' := 0) (L' := [some (.ref 0), some (.int (nI k)), some (.int b), some (.int n), none]) (st' := []) (h' := kv_wd g w) rfl ?_
  refine kx_st 2 (pc' := 2) (L' := [some (.ref 0), some (.int (nI k)), some (.int b), some (.int n), none]) (st' := [.int (nI k), .ref 0]) (h' := kv_wd g w) rfl ?_
  refine kx_call (z := 127) (as := [.ref 0, .int (nI k)]) (rest := []) (v := some (.ref (56 + 2 * k))) (h1 := kv_wd g w) rfl (ev_sheetAt (d := d) hq k hk) ?_
  refine kx_st 0 (pc' := 5) (L' := [some (.ref 0), some (.int (nI k)), some (.int b), some (.int n), none]) (st' := [.ref (56 + 2 * k)]) (h' := kv_wd g w) rfl ?_
  refine kx_st 2 (pc' := 9) (L' := [some (.ref 0), some (.int (nI k)), some (.int b), some (.int n), some (.ref (56 + 2 * k))]) (st' := [.ref (56 + 2 * k)]) (h' := kv_wd g w) rfl ?_
  refine kx_st 1 (pc' := 12) (L' := [some (.ref 0), some (.int (nI k)), some (.int b), some (.int n), some (.ref (56 + 2 * k))]) (st' := []) (h' := kv_wd g w) rfl ?_
  refine kx_st 1 (pc' := 13) (L' := [some (.ref 0), some (.int (nI k)), some (.int b), some (.int n), some (.ref (56 + 2 * k))]) (st' := [.int b]) (h' := kv_wd g w) rfl ?_
  refine kx_bc (t := 40) rfl rfl (fun (h13 : b = 0) => ?_) (fun (h13 : ¬ (b = 0)) => ?_)
  · exfalso; rcases hb with rfl | rfl | rfl <;> exact absurd h13 (by decide)
  · refine kx_st 0 (pc' := 16) (L' := [some (.ref 0), some (.int (nI k)), some (.int b), some (.int n), some (.ref (56 + 2 * k))]) (st' := []) (h' := kv_wd g w) rfl ?_
    refine kx_st 2 (pc' := 19) (L' := [some (.ref 0), some (.int (nI k)), some (.int b), some (.int n), some (.ref (56 + 2 * k))]) (st' := [.int 8, .int b]) (h' := kv_wd g w) rfl ?_
    refine kx_bi (t := 40) rfl rfl (fun (h19 : b = 8) => ?_) (fun (h19 : ¬ (b = 8)) => ?_)
    · refine kx_st 1 (pc' := 41) (L' := [some (.ref 0), some (.int (nI k)), some (.int b), some (.int n), some (.ref (56 + 2 * k))]) (st' := [.int b]) (h' := kv_wd g w) rfl ?_
      refine kx_bc (t := 53) rfl rfl (fun (h41 : ¬ b = 0) => ?_) (fun (h41 : ¬ (¬ b = 0)) => ?_)
      · refine kx_st 1 (pc' := 54) (L' := [some (.ref 0), some (.int (nI k)), some (.int b), some (.int n), some (.ref (56 + 2 * k))]) (st' := [.int n]) (h' := kv_wd g w) rfl ?_
        refine kx_bc (t := 63) rfl rfl (fun (h54 : 0 ≤ n) => ?_) (fun (h54 : ¬ (0 ≤ n)) => ?_)
        · refine kx_st 2 (pc' := 66) (L' := [some (.ref 0), some (.int (nI k)), some (.int b), some (.int n), some (.ref (56 + 2 * k))]) (st' := [.int 40, .int n]) (h' := kv_wd g w) rfl ?_
          refine kx_bi (t := 75) rfl rfl (fun (h66 : n ≤ 40) => ?_) (fun (h66 : ¬ (n ≤ 40)) => ?_)
          · refine kx_st 3 (pc' := 79) (L' := [some (.ref 0), some (.int (nI k)), some (.int b), some (.int n), some (.ref (56 + 2 * k))]) (st' := [.int n, .int b, .ref (56 + 2 * k)]) (h' := kv_wd g w) rfl ?_
            refine kx_call (z := 56) (as := [.ref (56 + 2 * k), .int b, .int n]) (rest := []) (v := none) (h1 := kv_wd (kx_lay g k b n) w) (kx_cv (b := 56 + 2 * k) (A := [.int b, .int n]) (rest := []) rfl rfl rfl rfl (Nat.le_of_ble_eq_true rfl) (by have := (kv_st_h hk).1; omega) ((kv_st_h hk).2.1 _ _)) (ev_lay (d := d) k hk b n) ?_
            refine kx_st 0 (pc' := 82) (L' := [some (.ref 0), some (.int (nI k)), some (.int b), some (.int n), some (.ref (56 + 2 * k))]) (st' := []) (h' := kv_wd (kx_lay g k b n) w) rfl ?_
            refine kx_st 1 (pc' := 83) (L' := [some (.ref 0), some (.int (nI k)), some (.int b), some (.int n), some (.ref (56 + 2 * k))]) (st' := [.int 1]) (h' := kv_wd (kx_lay g k b n) w) rfl ?_
            refine kx_ret (v := some (.int 1)) rfl ?_
            exact ⟨rfl, rfl⟩
          · exact absurd h40 h66
        · exact absurd (Int32.not_lt.mp hn) h54
      · exfalso; rcases hb with rfl | rfl | rfl <;> exact absurd (Classical.not_not.mp h41) (by decide)
    · refine kx_st 0 (pc' := 22) (L' := [some (.ref 0), some (.int (nI k)), some (.int b), some (.int n), some (.ref (56 + 2 * k))]) (st' := []) (h' := kv_wd g w) rfl ?_
      refine kx_st 2 (pc' := 25) (L' := [some (.ref 0), some (.int (nI k)), some (.int b), some (.int n), some (.ref (56 + 2 * k))]) (st' := [.int 16, .int b]) (h' := kv_wd g w) rfl ?_
      refine kx_bi (t := 40) rfl rfl (fun (h25 : b = 16) => ?_) (fun (h25 : ¬ (b = 16)) => ?_)
      · refine kx_st 1 (pc' := 41) (L' := [some (.ref 0), some (.int (nI k)), some (.int b), some (.int n), some (.ref (56 + 2 * k))]) (st' := [.int b]) (h' := kv_wd g w) rfl ?_
        refine kx_bc (t := 53) rfl rfl (fun (h41 : ¬ b = 0) => ?_) (fun (h41 : ¬ (¬ b = 0)) => ?_)
        · refine kx_st 1 (pc' := 54) (L' := [some (.ref 0), some (.int (nI k)), some (.int b), some (.int n), some (.ref (56 + 2 * k))]) (st' := [.int n]) (h' := kv_wd g w) rfl ?_
          refine kx_bc (t := 63) rfl rfl (fun (h54 : 0 ≤ n) => ?_) (fun (h54 : ¬ (0 ≤ n)) => ?_)
          · refine kx_st 2 (pc' := 66) (L' := [some (.ref 0), some (.int (nI k)), some (.int b), some (.int n), some (.ref (56 + 2 * k))]) (st' := [.int 40, .int n]) (h' := kv_wd g w) rfl ?_
            refine kx_bi (t := 75) rfl rfl (fun (h66 : n ≤ 40) => ?_) (fun (h66 : ¬ (n ≤ 40)) => ?_)
            · refine kx_st 3 (pc' := 79) (L' := [some (.ref 0), some (.int (nI k)), some (.int b), some (.int n), some (.ref (56 + 2 * k))]) (st' := [.int n, .int b, .ref (56 + 2 * k)]) (h' := kv_wd g w) rfl ?_
              refine kx_call (z := 56) (as := [.ref (56 + 2 * k), .int b, .int n]) (rest := []) (v := none) (h1 := kv_wd (kx_lay g k b n) w) (kx_cv (b := 56 + 2 * k) (A := [.int b, .int n]) (rest := []) rfl rfl rfl rfl (Nat.le_of_ble_eq_true rfl) (by have := (kv_st_h hk).1; omega) ((kv_st_h hk).2.1 _ _)) (ev_lay (d := d) k hk b n) ?_
              refine kx_st 0 (pc' := 82) (L' := [some (.ref 0), some (.int (nI k)), some (.int b), some (.int n), some (.ref (56 + 2 * k))]) (st' := []) (h' := kv_wd (kx_lay g k b n) w) rfl ?_
              refine kx_st 1 (pc' := 83) (L' := [some (.ref 0), some (.int (nI k)), some (.int b), some (.int n), some (.ref (56 + 2 * k))]) (st' := [.int 1]) (h' := kv_wd (kx_lay g k b n) w) rfl ?_
              refine kx_ret (v := some (.int 1)) rfl ?_
              exact ⟨rfl, rfl⟩
            · exact absurd h40 h66
          · exact absurd (Int32.not_lt.mp hn) h54
        · exfalso; rcases hb with rfl | rfl | rfl <;> exact absurd (Classical.not_not.mp h41) (by decide)
      · refine kx_st 0 (pc' := 28) (L' := [some (.ref 0), some (.int (nI k)), some (.int b), some (.int n), some (.ref (56 + 2 * k))]) (st' := []) (h' := kv_wd g w) rfl ?_
        refine kx_st 2 (pc' := 31) (L' := [some (.ref 0), some (.int (nI k)), some (.int b), some (.int n), some (.ref (56 + 2 * k))]) (st' := [.int 32, .int b]) (h' := kv_wd g w) rfl ?_
        refine kx_bi (t := 40) rfl rfl (fun (h31 : b = 32) => ?_) (fun (h31 : ¬ (b = 32)) => ?_)
        · refine kx_st 1 (pc' := 41) (L' := [some (.ref 0), some (.int (nI k)), some (.int b), some (.int n), some (.ref (56 + 2 * k))]) (st' := [.int b]) (h' := kv_wd g w) rfl ?_
          refine kx_bc (t := 53) rfl rfl (fun (h41 : ¬ b = 0) => ?_) (fun (h41 : ¬ (¬ b = 0)) => ?_)
          · refine kx_st 1 (pc' := 54) (L' := [some (.ref 0), some (.int (nI k)), some (.int b), some (.int n), some (.ref (56 + 2 * k))]) (st' := [.int n]) (h' := kv_wd g w) rfl ?_
            refine kx_bc (t := 63) rfl rfl (fun (h54 : 0 ≤ n) => ?_) (fun (h54 : ¬ (0 ≤ n)) => ?_)
            · refine kx_st 2 (pc' := 66) (L' := [some (.ref 0), some (.int (nI k)), some (.int b), some (.int n), some (.ref (56 + 2 * k))]) (st' := [.int 40, .int n]) (h' := kv_wd g w) rfl ?_
              refine kx_bi (t := 75) rfl rfl (fun (h66 : n ≤ 40) => ?_) (fun (h66 : ¬ (n ≤ 40)) => ?_)
              · refine kx_st 3 (pc' := 79) (L' := [some (.ref 0), some (.int (nI k)), some (.int b), some (.int n), some (.ref (56 + 2 * k))]) (st' := [.int n, .int b, .ref (56 + 2 * k)]) (h' := kv_wd g w) rfl ?_
                refine kx_call (z := 56) (as := [.ref (56 + 2 * k), .int b, .int n]) (rest := []) (v := none) (h1 := kv_wd (kx_lay g k b n) w) (kx_cv (b := 56 + 2 * k) (A := [.int b, .int n]) (rest := []) rfl rfl rfl rfl (Nat.le_of_ble_eq_true rfl) (by have := (kv_st_h hk).1; omega) ((kv_st_h hk).2.1 _ _)) (ev_lay (d := d) k hk b n) ?_
                refine kx_st 0 (pc' := 82) (L' := [some (.ref 0), some (.int (nI k)), some (.int b), some (.int n), some (.ref (56 + 2 * k))]) (st' := []) (h' := kv_wd (kx_lay g k b n) w) rfl ?_
                refine kx_st 1 (pc' := 83) (L' := [some (.ref 0), some (.int (nI k)), some (.int b), some (.int n), some (.ref (56 + 2 * k))]) (st' := [.int 1]) (h' := kv_wd (kx_lay g k b n) w) rfl ?_
                refine kx_ret (v := some (.int 1)) rfl ?_
                exact ⟨rfl, rfl⟩
              · exact absurd h40 h66
            · exact absurd (Int32.not_lt.mp hn) h54
          · exfalso; rcases hb with rfl | rfl | rfl <;> exact absurd (Classical.not_not.mp h41) (by decide)
        · exfalso; rcases hb with rfl | rfl | rfl <;> contradiction
set_option maxRecDepth 100000 in
theorem ev_x_sheet_s {E : kv_V} {d : Nat} {g : kv_S} {w : kv_W} (hq : kv_qok w) (k : Nat) (hk : k < 4) (b : Int32) (hb : b = 8 ∨ b = 16 ∨ b = 32) (n : Int32) (hn : n < 0) : kv_ev E (d + 2) 112 [.ref 0, .int (nI k), .int b, .int n] (kv_wd g w) (some (.int (-1000000000 - nI 3))) (kv_wd (kv_up g 64 3 (g 64 3 + 1)) w) := by
  refine kx_ev (d := d + 1) (by decide) (Nat.le_of_ble_eq_true rfl) ?_
  refine kx_st 0 (pc' := 0) (L' := [some (.ref 0), some (.int (nI k)), some (.int b), some (.int n), none]) (st' := []) (h' := kv_wd g w) rfl ?_
  refine kx_st 2 (pc' := 2) (L' := [some (.ref 0), some (.int (nI k)), some (.int b), some (.int n), none]) (st' := [.int (nI k), .ref 0]) (h' := kv_wd g w) rfl ?_
  refine kx_call (z := 127) (as := [.ref 0, .int (nI k)]) (rest := []) (v := some (.ref (56 + 2 * k))) (h1 := kv_wd g w) rfl (ev_sheetAt (d := d) hq k hk) ?_
  refine kx_st 0 (pc' := 5) (L' := [some (.ref 0), some (.int (nI k)), some (.int b), some (.int n), none]) (st' := [.ref (56 + 2 * k)]) (h' := kv_wd g w) rfl ?_
  refine kx_st 2 (pc' := 9) (L' := [some (.ref 0), some (.int (nI k)), some (.int b), some (.int n), some (.ref (56 + 2 * k))]) (st' := [.ref (56 + 2 * k)]) (h' := kv_wd g w) rfl ?_
  refine kx_st 1 (pc' := 12) (L' := [some (.ref 0), some (.int (nI k)), some (.int b), some (.int n), some (.ref (56 + 2 * k))]) (st' := []) (h' := kv_wd g w) rfl ?_
  refine kx_st 1 (pc' := 13) (L' := [some (.ref 0), some (.int (nI k)), some (.int b), some (.int n), some (.ref (56 + 2 * k))]) (st' := [.int b]) (h' := kv_wd g w) rfl ?_
  refine kx_bc (t := 40) rfl rfl (fun (h13 : b = 0) => ?_) (fun (h13 : ¬ (b = 0)) => ?_)
  · exfalso; rcases hb with rfl | rfl | rfl <;> exact absurd h13 (by decide)
  · refine kx_st 0 (pc' := 16) (L' := [some (.ref 0), some (.int (nI k)), some (.int b), some (.int n), some (.ref (56 + 2 * k))]) (st' := []) (h' := kv_wd g w) rfl ?_
    refine kx_st 2 (pc' := 19) (L' := [some (.ref 0), some (.int (nI k)), some (.int b), some (.int n), some (.ref (56 + 2 * k))]) (st' := [.int 8, .int b]) (h' := kv_wd g w) rfl ?_
    refine kx_bi (t := 40) rfl rfl (fun (h19 : b = 8) => ?_) (fun (h19 : ¬ (b = 8)) => ?_)
    · refine kx_st 1 (pc' := 41) (L' := [some (.ref 0), some (.int (nI k)), some (.int b), some (.int n), some (.ref (56 + 2 * k))]) (st' := [.int b]) (h' := kv_wd g w) rfl ?_
      refine kx_bc (t := 53) rfl rfl (fun (h41 : ¬ b = 0) => ?_) (fun (h41 : ¬ (¬ b = 0)) => ?_)
      · refine kx_st 1 (pc' := 54) (L' := [some (.ref 0), some (.int (nI k)), some (.int b), some (.int n), some (.ref (56 + 2 * k))]) (st' := [.int n]) (h' := kv_wd g w) rfl ?_
        refine kx_bc (t := 63) rfl rfl (fun (h54 : 0 ≤ n) => ?_) (fun (h54 : ¬ (0 ≤ n)) => ?_)
        · exact absurd h54 (Int32.not_le.mpr hn)
        · refine kx_st 0 (pc' := 57) (L' := [some (.ref 0), some (.int (nI k)), some (.int b), some (.int n), some (.ref (56 + 2 * k))]) (st' := []) (h' := kv_wd g w) rfl ?_
          refine kx_st 2 (pc' := 59) (L' := [some (.ref 0), some (.int (nI k)), some (.int b), some (.int n), some (.ref (56 + 2 * k))]) (st' := [.int 3, .ref 0]) (h' := kv_wd g w) rfl ?_
          refine kx_call (z := 123) (as := [.ref 0, .int 3]) (rest := []) (v := some (.int (-1000000000 - nI 3))) (h1 := kv_wd (kv_up g 64 3 (g 64 3 + 1)) w) rfl (ev_error (d := d) 3 (by decide) (by decide)) ?_
          refine kx_st 0 (pc' := 62) (L' := [some (.ref 0), some (.int (nI k)), some (.int b), some (.int n), some (.ref (56 + 2 * k))]) (st' := [.int (-1000000000 - nI 3)]) (h' := kv_wd (kv_up g 64 3 (g 64 3 + 1)) w) rfl ?_
          refine kx_ret (v := some (.int (-1000000000 - nI 3))) rfl ?_
          exact ⟨rfl, rfl⟩
      · exfalso; rcases hb with rfl | rfl | rfl <;> exact absurd (Classical.not_not.mp h41) (by decide)
    · refine kx_st 0 (pc' := 22) (L' := [some (.ref 0), some (.int (nI k)), some (.int b), some (.int n), some (.ref (56 + 2 * k))]) (st' := []) (h' := kv_wd g w) rfl ?_
      refine kx_st 2 (pc' := 25) (L' := [some (.ref 0), some (.int (nI k)), some (.int b), some (.int n), some (.ref (56 + 2 * k))]) (st' := [.int 16, .int b]) (h' := kv_wd g w) rfl ?_
      refine kx_bi (t := 40) rfl rfl (fun (h25 : b = 16) => ?_) (fun (h25 : ¬ (b = 16)) => ?_)
      · refine kx_st 1 (pc' := 41) (L' := [some (.ref 0), some (.int (nI k)), some (.int b), some (.int n), some (.ref (56 + 2 * k))]) (st' := [.int b]) (h' := kv_wd g w) rfl ?_
        refine kx_bc (t := 53) rfl rfl (fun (h41 : ¬ b = 0) => ?_) (fun (h41 : ¬ (¬ b = 0)) => ?_)
        · refine kx_st 1 (pc' := 54) (L' := [some (.ref 0), some (.int (nI k)), some (.int b), some (.int n), some (.ref (56 + 2 * k))]) (st' := [.int n]) (h' := kv_wd g w) rfl ?_
          refine kx_bc (t := 63) rfl rfl (fun (h54 : 0 ≤ n) => ?_) (fun (h54 : ¬ (0 ≤ n)) => ?_)
          · exact absurd h54 (Int32.not_le.mpr hn)
          · refine kx_st 0 (pc' := 57) (L' := [some (.ref 0), some (.int (nI k)), some (.int b), some (.int n), some (.ref (56 + 2 * k))]) (st' := []) (h' := kv_wd g w) rfl ?_
            refine kx_st 2 (pc' := 59) (L' := [some (.ref 0), some (.int (nI k)), some (.int b), some (.int n), some (.ref (56 + 2 * k))]) (st' := [.int 3, .ref 0]) (h' := kv_wd g w) rfl ?_
            refine kx_call (z := 123) (as := [.ref 0, .int 3]) (rest := []) (v := some (.int (-1000000000 - nI 3))) (h1 := kv_wd (kv_up g 64 3 (g 64 3 + 1)) w) rfl (ev_error (d := d) 3 (by decide) (by decide)) ?_
            refine kx_st 0 (pc' := 62) (L' := [some (.ref 0), some (.int (nI k)), some (.int b), some (.int n), some (.ref (56 + 2 * k))]) (st' := [.int (-1000000000 - nI 3)]) (h' := kv_wd (kv_up g 64 3 (g 64 3 + 1)) w) rfl ?_
            refine kx_ret (v := some (.int (-1000000000 - nI 3))) rfl ?_
            exact ⟨rfl, rfl⟩
        · exfalso; rcases hb with rfl | rfl | rfl <;> exact absurd (Classical.not_not.mp h41) (by decide)
      · refine kx_st 0 (pc' := 28) (L' := [some (.ref 0), some (.int (nI k)), some (.int b), some (.int n), some (.ref (56 + 2 * k))]) (st' := []) (h' := kv_wd g w) rfl ?_
        refine kx_st 2 (pc' := 31) (L' := [some (.ref 0), some (.int (nI k)), some (.int b), some (.int n), some (.ref (56 + 2 * k))]) (st' := [.int 32, .int b]) (h' := kv_wd g w) rfl ?_
        refine kx_bi (t := 40) rfl rfl (fun (h31 : b = 32) => ?_) (fun (h31 : ¬ (b = 32)) => ?_)
        · refine kx_st 1 (pc' := 41) (L' := [some (.ref 0), some (.int (nI k)), some (.int b), some (.int n), some (.ref (56 + 2 * k))]) (st' := [.int b]) (h' := kv_wd g w) rfl ?_
          refine kx_bc (t := 53) rfl rfl (fun (h41 : ¬ b = 0) => ?_) (fun (h41 : ¬ (¬ b = 0)) => ?_)
          · refine kx_st 1 (pc' := 54) (L' := [some (.ref 0), some (.int (nI k)), some (.int b), some (.int n), some (.ref (56 + 2 * k))]) (st' := [.int n]) (h' := kv_wd g w) rfl ?_
            refine kx_bc (t := 63) rfl rfl (fun (h54 : 0 ≤ n) => ?_) (fun (h54 : ¬ (0 ≤ n)) => ?_)
            · exact absurd h54 (Int32.not_le.mpr hn)
            · refine kx_st 0 (pc' := 57) (L' := [some (.ref 0), some (.int (nI k)), some (.int b), some (.int n), some (.ref (56 + 2 * k))]) (st' := []) (h' := kv_wd g w) rfl ?_
              refine kx_st 2 (pc' := 59) (L' := [some (.ref 0), some (.int (nI k)), some (.int b), some (.int n), some (.ref (56 + 2 * k))]) (st' := [.int 3, .ref 0]) (h' := kv_wd g w) rfl ?_
              refine kx_call (z := 123) (as := [.ref 0, .int 3]) (rest := []) (v := some (.int (-1000000000 - nI 3))) (h1 := kv_wd (kv_up g 64 3 (g 64 3 + 1)) w) rfl (ev_error (d := d) 3 (by decide) (by decide)) ?_
              refine kx_st 0 (pc' := 62) (L' := [some (.ref 0), some (.int (nI k)), some (.int b), some (.int n), some (.ref (56 + 2 * k))]) (st' := [.int (-1000000000 - nI 3)]) (h' := kv_wd (kv_up g 64 3 (g 64 3 + 1)) w) rfl ?_
              refine kx_ret (v := some (.int (-1000000000 - nI 3))) rfl ?_
              exact ⟨rfl, rfl⟩
          · exfalso; rcases hb with rfl | rfl | rfl <;> exact absurd (Classical.not_not.mp h41) (by decide)
        · exfalso; rcases hb with rfl | rfl | rfl <;> contradiction
set_option maxRecDepth 100000 in
theorem ev_x_sheet_b {E : kv_V} {d : Nat} {g : kv_S} {w : kv_W} (hq : kv_qok w) (k : Nat) (hk : k < 4) (b : Int32) (hb : b = 8 ∨ b = 16 ∨ b = 32) (n : Int32) (hn : ¬ n < 0) (h40 : ¬ n ≤ 40) : kv_ev E (d + 2) 112 [.ref 0, .int (nI k), .int b, .int n] (kv_wd g w) (some (.int (-1000000000 - nI 1))) (kv_wd (kv_up g 64 1 (g 64 1 + 1)) w) := by
  refine kx_ev (d := d + 1) (by decide) (Nat.le_of_ble_eq_true rfl) ?_
  refine kx_st 0 (pc' := 0) (L' := [some (.ref 0), some (.int (nI k)), some (.int b), some (.int n), none]) (st' := []) (h' := kv_wd g w) rfl ?_
  refine kx_st 2 (pc' := 2) (L' := [some (.ref 0), some (.int (nI k)), some (.int b), some (.int n), none]) (st' := [.int (nI k), .ref 0]) (h' := kv_wd g w) rfl ?_
  refine kx_call (z := 127) (as := [.ref 0, .int (nI k)]) (rest := []) (v := some (.ref (56 + 2 * k))) (h1 := kv_wd g w) rfl (ev_sheetAt (d := d) hq k hk) ?_
  refine kx_st 0 (pc' := 5) (L' := [some (.ref 0), some (.int (nI k)), some (.int b), some (.int n), none]) (st' := [.ref (56 + 2 * k)]) (h' := kv_wd g w) rfl ?_
  refine kx_st 2 (pc' := 9) (L' := [some (.ref 0), some (.int (nI k)), some (.int b), some (.int n), some (.ref (56 + 2 * k))]) (st' := [.ref (56 + 2 * k)]) (h' := kv_wd g w) rfl ?_
  refine kx_st 1 (pc' := 12) (L' := [some (.ref 0), some (.int (nI k)), some (.int b), some (.int n), some (.ref (56 + 2 * k))]) (st' := []) (h' := kv_wd g w) rfl ?_
  refine kx_st 1 (pc' := 13) (L' := [some (.ref 0), some (.int (nI k)), some (.int b), some (.int n), some (.ref (56 + 2 * k))]) (st' := [.int b]) (h' := kv_wd g w) rfl ?_
  refine kx_bc (t := 40) rfl rfl (fun (h13 : b = 0) => ?_) (fun (h13 : ¬ (b = 0)) => ?_)
  · exfalso; rcases hb with rfl | rfl | rfl <;> exact absurd h13 (by decide)
  · refine kx_st 0 (pc' := 16) (L' := [some (.ref 0), some (.int (nI k)), some (.int b), some (.int n), some (.ref (56 + 2 * k))]) (st' := []) (h' := kv_wd g w) rfl ?_
    refine kx_st 2 (pc' := 19) (L' := [some (.ref 0), some (.int (nI k)), some (.int b), some (.int n), some (.ref (56 + 2 * k))]) (st' := [.int 8, .int b]) (h' := kv_wd g w) rfl ?_
    refine kx_bi (t := 40) rfl rfl (fun (h19 : b = 8) => ?_) (fun (h19 : ¬ (b = 8)) => ?_)
    · refine kx_st 1 (pc' := 41) (L' := [some (.ref 0), some (.int (nI k)), some (.int b), some (.int n), some (.ref (56 + 2 * k))]) (st' := [.int b]) (h' := kv_wd g w) rfl ?_
      refine kx_bc (t := 53) rfl rfl (fun (h41 : ¬ b = 0) => ?_) (fun (h41 : ¬ (¬ b = 0)) => ?_)
      · refine kx_st 1 (pc' := 54) (L' := [some (.ref 0), some (.int (nI k)), some (.int b), some (.int n), some (.ref (56 + 2 * k))]) (st' := [.int n]) (h' := kv_wd g w) rfl ?_
        refine kx_bc (t := 63) rfl rfl (fun (h54 : 0 ≤ n) => ?_) (fun (h54 : ¬ (0 ≤ n)) => ?_)
        · refine kx_st 2 (pc' := 66) (L' := [some (.ref 0), some (.int (nI k)), some (.int b), some (.int n), some (.ref (56 + 2 * k))]) (st' := [.int 40, .int n]) (h' := kv_wd g w) rfl ?_
          refine kx_bi (t := 75) rfl rfl (fun (h66 : n ≤ 40) => ?_) (fun (h66 : ¬ (n ≤ 40)) => ?_)
          · exact absurd h66 h40
          · refine kx_st 0 (pc' := 69) (L' := [some (.ref 0), some (.int (nI k)), some (.int b), some (.int n), some (.ref (56 + 2 * k))]) (st' := []) (h' := kv_wd g w) rfl ?_
            refine kx_st 2 (pc' := 71) (L' := [some (.ref 0), some (.int (nI k)), some (.int b), some (.int n), some (.ref (56 + 2 * k))]) (st' := [.int 1, .ref 0]) (h' := kv_wd g w) rfl ?_
            refine kx_call (z := 123) (as := [.ref 0, .int 1]) (rest := []) (v := some (.int (-1000000000 - nI 1))) (h1 := kv_wd (kv_up g 64 1 (g 64 1 + 1)) w) rfl (ev_error (d := d) 1 (by decide) (by decide)) ?_
            refine kx_st 0 (pc' := 74) (L' := [some (.ref 0), some (.int (nI k)), some (.int b), some (.int n), some (.ref (56 + 2 * k))]) (st' := [.int (-1000000000 - nI 1)]) (h' := kv_wd (kv_up g 64 1 (g 64 1 + 1)) w) rfl ?_
            refine kx_ret (v := some (.int (-1000000000 - nI 1))) rfl ?_
            exact ⟨rfl, rfl⟩
        · exact absurd (Int32.not_lt.mp hn) h54
      · exfalso; rcases hb with rfl | rfl | rfl <;> exact absurd (Classical.not_not.mp h41) (by decide)
    · refine kx_st 0 (pc' := 22) (L' := [some (.ref 0), some (.int (nI k)), some (.int b), some (.int n), some (.ref (56 + 2 * k))]) (st' := []) (h' := kv_wd g w) rfl ?_
      refine kx_st 2 (pc' := 25) (L' := [some (.ref 0), some (.int (nI k)), some (.int b), some (.int n), some (.ref (56 + 2 * k))]) (st' := [.int 16, .int b]) (h' := kv_wd g w) rfl ?_
      refine kx_bi (t := 40) rfl rfl (fun (h25 : b = 16) => ?_) (fun (h25 : ¬ (b = 16)) => ?_)
      · refine kx_st 1 (pc' := 41) (L' := [some (.ref 0), some (.int (nI k)), some (.int b), some (.int n), some (.ref (56 + 2 * k))]) (st' := [.int b]) (h' := kv_wd g w) rfl ?_
        refine kx_bc (t := 53) rfl rfl (fun (h41 : ¬ b = 0) => ?_) (fun (h41 : ¬ (¬ b = 0)) => ?_)
        · refine kx_st 1 (pc' := 54) (L' := [some (.ref 0), some (.int (nI k)), some (.int b), some (.int n), some (.ref (56 + 2 * k))]) (st' := [.int n]) (h' := kv_wd g w) rfl ?_
          refine kx_bc (t := 63) rfl rfl (fun (h54 : 0 ≤ n) => ?_) (fun (h54 : ¬ (0 ≤ n)) => ?_)
          · refine kx_st 2 (pc' := 66) (L' := [some (.ref 0), some (.int (nI k)), some (.int b), some (.int n), some (.ref (56 + 2 * k))]) (st' := [.int 40, .int n]) (h' := kv_wd g w) rfl ?_
            refine kx_bi (t := 75) rfl rfl (fun (h66 : n ≤ 40) => ?_) (fun (h66 : ¬ (n ≤ 40)) => ?_)
            · exact absurd h66 h40
            · refine kx_st 0 (pc' := 69) (L' := [some (.ref 0), some (.int (nI k)), some (.int b), some (.int n), some (.ref (56 + 2 * k))]) (st' := []) (h' := kv_wd g w) rfl ?_
              refine kx_st 2 (pc' := 71) (L' := [some (.ref 0), some (.int (nI k)), some (.int b), some (.int n), some (.ref (56 + 2 * k))]) (st' := [.int 1, .ref 0]) (h' := kv_wd g w) rfl ?_
              refine kx_call (z := 123) (as := [.ref 0, .int 1]) (rest := []) (v := some (.int (-1000000000 - nI 1))) (h1 := kv_wd (kv_up g 64 1 (g 64 1 + 1)) w) rfl (ev_error (d := d) 1 (by decide) (by decide)) ?_
              refine kx_st 0 (pc' := 74) (L' := [some (.ref 0), some (.int (nI k)), some (.int b), some (.int n), some (.ref (56 + 2 * k))]) (st' := [.int (-1000000000 - nI 1)]) (h' := kv_wd (kv_up g 64 1 (g 64 1 + 1)) w) rfl ?_
              refine kx_ret (v := some (.int (-1000000000 - nI 1))) rfl ?_
              exact ⟨rfl, rfl⟩
          · exact absurd (Int32.not_lt.mp hn) h54
        · exfalso; rcases hb with rfl | rfl | rfl <;> exact absurd (Classical.not_not.mp h41) (by decide)
      · refine kx_st 0 (pc' := 28) (L' := [some (.ref 0), some (.int (nI k)), some (.int b), some (.int n), some (.ref (56 + 2 * k))]) (st' := []) (h' := kv_wd g w) rfl ?_
        refine kx_st 2 (pc' := 31) (L' := [some (.ref 0), some (.int (nI k)), some (.int b), some (.int n), some (.ref (56 + 2 * k))]) (st' := [.int 32, .int b]) (h' := kv_wd g w) rfl ?_
        refine kx_bi (t := 40) rfl rfl (fun (h31 : b = 32) => ?_) (fun (h31 : ¬ (b = 32)) => ?_)
        · refine kx_st 1 (pc' := 41) (L' := [some (.ref 0), some (.int (nI k)), some (.int b), some (.int n), some (.ref (56 + 2 * k))]) (st' := [.int b]) (h' := kv_wd g w) rfl ?_
          refine kx_bc (t := 53) rfl rfl (fun (h41 : ¬ b = 0) => ?_) (fun (h41 : ¬ (¬ b = 0)) => ?_)
          · refine kx_st 1 (pc' := 54) (L' := [some (.ref 0), some (.int (nI k)), some (.int b), some (.int n), some (.ref (56 + 2 * k))]) (st' := [.int n]) (h' := kv_wd g w) rfl ?_
            refine kx_bc (t := 63) rfl rfl (fun (h54 : 0 ≤ n) => ?_) (fun (h54 : ¬ (0 ≤ n)) => ?_)
            · refine kx_st 2 (pc' := 66) (L' := [some (.ref 0), some (.int (nI k)), some (.int b), some (.int n), some (.ref (56 + 2 * k))]) (st' := [.int 40, .int n]) (h' := kv_wd g w) rfl ?_
              refine kx_bi (t := 75) rfl rfl (fun (h66 : n ≤ 40) => ?_) (fun (h66 : ¬ (n ≤ 40)) => ?_)
              · exact absurd h66 h40
              · refine kx_st 0 (pc' := 69) (L' := [some (.ref 0), some (.int (nI k)), some (.int b), some (.int n), some (.ref (56 + 2 * k))]) (st' := []) (h' := kv_wd g w) rfl ?_
                refine kx_st 2 (pc' := 71) (L' := [some (.ref 0), some (.int (nI k)), some (.int b), some (.int n), some (.ref (56 + 2 * k))]) (st' := [.int 1, .ref 0]) (h' := kv_wd g w) rfl ?_
                refine kx_call (z := 123) (as := [.ref 0, .int 1]) (rest := []) (v := some (.int (-1000000000 - nI 1))) (h1 := kv_wd (kv_up g 64 1 (g 64 1 + 1)) w) rfl (ev_error (d := d) 1 (by decide) (by decide)) ?_
                refine kx_st 0 (pc' := 74) (L' := [some (.ref 0), some (.int (nI k)), some (.int b), some (.int n), some (.ref (56 + 2 * k))]) (st' := [.int (-1000000000 - nI 1)]) (h' := kv_wd (kv_up g 64 1 (g 64 1 + 1)) w) rfl ?_
                refine kx_ret (v := some (.int (-1000000000 - nI 1))) rfl ?_
                exact ⟨rfl, rfl⟩
            · exact absurd (Int32.not_lt.mp hn) h54
          · exfalso; rcases hb with rfl | rfl | rfl <;> exact absurd (Classical.not_not.mp h41) (by decide)
        · exfalso; rcases hb with rfl | rfl | rfl <;> contradiction
set_option maxRecDepth 100000 in
theorem ev_x_sheet_n {E : kv_V} {d : Nat} {g : kv_S} {w : kv_W} (z b n : Int32) (hv : ¬ (0 ≤ z ∧ z ≤ 3)) : kv_ev E (d + 2) 112 [.ref 0, .int z, .int b, .int n] (kv_wd g w) (some (.int (-1000000000 - nI 1))) (kv_wd (kv_up g 64 1 (g 64 1 + 1)) w) := by
  refine kx_ev (d := d + 1) (by decide) (Nat.le_of_ble_eq_true rfl) ?_
  refine kx_st 0 (pc' := 0) (L' := [some (.ref 0), some (.int z), some (.int b), some (.int n), none]) (st' := []) (h' := kv_wd g w) rfl ?_
  refine kx_st 2 (pc' := 2) (L' := [some (.ref 0), some (.int z), some (.int b), some (.int n), none]) (st' := [.int z, .ref 0]) (h' := kv_wd g w) rfl ?_
  refine kx_call (z := 127) (as := [.ref 0, .int z]) (rest := []) (v := some (.null)) (h1 := kv_wd g w) rfl (ev_sheetAt_n (d := d) z hv) ?_
  refine kx_st 0 (pc' := 5) (L' := [some (.ref 0), some (.int z), some (.int b), some (.int n), none]) (st' := [.null]) (h' := kv_wd g w) rfl ?_
  refine kx_st 2 (pc' := 9) (L' := [some (.ref 0), some (.int z), some (.int b), some (.int n), some (.null)]) (st' := [.null]) (h' := kv_wd g w) rfl ?_
  refine kx_st 1 (pc' := 34) (L' := [some (.ref 0), some (.int z), some (.int b), some (.int n), some (.null)]) (st' := []) (h' := kv_wd g w) rfl ?_
  refine kx_st 2 (pc' := 36) (L' := [some (.ref 0), some (.int z), some (.int b), some (.int n), some (.null)]) (st' := [.int 1, .ref 0]) (h' := kv_wd g w) rfl ?_
  refine kx_call (z := 123) (as := [.ref 0, .int 1]) (rest := []) (v := some (.int (-1000000000 - nI 1))) (h1 := kv_wd (kv_up g 64 1 (g 64 1 + 1)) w) rfl (ev_error (d := d) 1 (by decide) (by decide)) ?_
  refine kx_st 0 (pc' := 39) (L' := [some (.ref 0), some (.int z), some (.int b), some (.int n), some (.null)]) (st' := [.int (-1000000000 - nI 1)]) (h' := kv_wd (kv_up g 64 1 (g 64 1 + 1)) w) rfl ?_
  refine kx_ret (v := some (.int (-1000000000 - nI 1))) rfl ?_
  exact ⟨rfl, rfl⟩
set_option maxRecDepth 100000 in
theorem ev_x_sheet_k {E : kv_V} {d : Nat} {g : kv_S} {w : kv_W} (hq : kv_qok w) (k : Nat) (hk : k < 4) (b n : Int32) (hb : ¬ b = 0 ∧ ¬ b = 8 ∧ ¬ b = 16 ∧ ¬ b = 32) : kv_ev E (d + 2) 112 [.ref 0, .int (nI k), .int b, .int n] (kv_wd g w) (some (.int (-1000000000 - nI 1))) (kv_wd (kv_up g 64 1 (g 64 1 + 1)) w) := by
  refine kx_ev (d := d + 1) (by decide) (Nat.le_of_ble_eq_true rfl) ?_
  refine kx_st 0 (pc' := 0) (L' := [some (.ref 0), some (.int (nI k)), some (.int b), some (.int n), none]) (st' := []) (h' := kv_wd g w) rfl ?_
  refine kx_st 2 (pc' := 2) (L' := [some (.ref 0), some (.int (nI k)), some (.int b), some (.int n), none]) (st' := [.int (nI k), .ref 0]) (h' := kv_wd g w) rfl ?_
  refine kx_call (z := 127) (as := [.ref 0, .int (nI k)]) (rest := []) (v := some (.ref (56 + 2 * k))) (h1 := kv_wd g w) rfl (ev_sheetAt (d := d) hq k hk) ?_
  refine kx_st 0 (pc' := 5) (L' := [some (.ref 0), some (.int (nI k)), some (.int b), some (.int n), none]) (st' := [.ref (56 + 2 * k)]) (h' := kv_wd g w) rfl ?_
  refine kx_st 2 (pc' := 9) (L' := [some (.ref 0), some (.int (nI k)), some (.int b), some (.int n), some (.ref (56 + 2 * k))]) (st' := [.ref (56 + 2 * k)]) (h' := kv_wd g w) rfl ?_
  refine kx_st 1 (pc' := 12) (L' := [some (.ref 0), some (.int (nI k)), some (.int b), some (.int n), some (.ref (56 + 2 * k))]) (st' := []) (h' := kv_wd g w) rfl ?_
  refine kx_st 1 (pc' := 13) (L' := [some (.ref 0), some (.int (nI k)), some (.int b), some (.int n), some (.ref (56 + 2 * k))]) (st' := [.int b]) (h' := kv_wd g w) rfl ?_
  refine kx_bc (t := 40) rfl rfl (fun (h13 : b = 0) => ?_) (fun (h13 : ¬ (b = 0)) => ?_)
  · exact absurd h13 hb.1
  · refine kx_st 0 (pc' := 16) (L' := [some (.ref 0), some (.int (nI k)), some (.int b), some (.int n), some (.ref (56 + 2 * k))]) (st' := []) (h' := kv_wd g w) rfl ?_
    refine kx_st 2 (pc' := 19) (L' := [some (.ref 0), some (.int (nI k)), some (.int b), some (.int n), some (.ref (56 + 2 * k))]) (st' := [.int 8, .int b]) (h' := kv_wd g w) rfl ?_
    refine kx_bi (t := 40) rfl rfl (fun (h19 : b = 8) => ?_) (fun (h19 : ¬ (b = 8)) => ?_)
    · exact absurd h19 hb.2.1
    · refine kx_st 0 (pc' := 22) (L' := [some (.ref 0), some (.int (nI k)), some (.int b), some (.int n), some (.ref (56 + 2 * k))]) (st' := []) (h' := kv_wd g w) rfl ?_
      refine kx_st 2 (pc' := 25) (L' := [some (.ref 0), some (.int (nI k)), some (.int b), some (.int n), some (.ref (56 + 2 * k))]) (st' := [.int 16, .int b]) (h' := kv_wd g w) rfl ?_
      refine kx_bi (t := 40) rfl rfl (fun (h25 : b = 16) => ?_) (fun (h25 : ¬ (b = 16)) => ?_)
      · exact absurd h25 hb.2.2.1
      · refine kx_st 0 (pc' := 28) (L' := [some (.ref 0), some (.int (nI k)), some (.int b), some (.int n), some (.ref (56 + 2 * k))]) (st' := []) (h' := kv_wd g w) rfl ?_
        refine kx_st 2 (pc' := 31) (L' := [some (.ref 0), some (.int (nI k)), some (.int b), some (.int n), some (.ref (56 + 2 * k))]) (st' := [.int 32, .int b]) (h' := kv_wd g w) rfl ?_
        refine kx_bi (t := 40) rfl rfl (fun (h31 : b = 32) => ?_) (fun (h31 : ¬ (b = 32)) => ?_)
        · exact absurd h31 hb.2.2.2
        · refine kx_st 0 (pc' := 34) (L' := [some (.ref 0), some (.int (nI k)), some (.int b), some (.int n), some (.ref (56 + 2 * k))]) (st' := []) (h' := kv_wd g w) rfl ?_
          refine kx_st 2 (pc' := 36) (L' := [some (.ref 0), some (.int (nI k)), some (.int b), some (.int n), some (.ref (56 + 2 * k))]) (st' := [.int 1, .ref 0]) (h' := kv_wd g w) rfl ?_
          refine kx_call (z := 123) (as := [.ref 0, .int 1]) (rest := []) (v := some (.int (-1000000000 - nI 1))) (h1 := kv_wd (kv_up g 64 1 (g 64 1 + 1)) w) rfl (ev_error (d := d) 1 (by decide) (by decide)) ?_
          refine kx_st 0 (pc' := 39) (L' := [some (.ref 0), some (.int (nI k)), some (.int b), some (.int n), some (.ref (56 + 2 * k))]) (st' := [.int (-1000000000 - nI 1)]) (h' := kv_wd (kv_up g 64 1 (g 64 1 + 1)) w) rfl ?_
          refine kx_ret (v := some (.int (-1000000000 - nI 1))) rfl ?_
          exact ⟨rfl, rfl⟩
def kx_ml (f : Nat → Int32) (k n : Nat) : Nat → Int32 := fun j => if 40 * k ≤ j ∧ j < 40 * k + n then 0 else f j
theorem kx_ml_0 (f : Nat → Int32) (k : Nat) : kx_ml f k 0 = f := by funext j; unfold kx_ml; rw [if_neg (by omega)]
theorem kx_ml_s (g : kv_S) (k n : Nat) (f : Nat → Int32) : kv_up (kv_uf g 73 (kx_ml f k n)) 73 (40 * k + n) 0 = kv_uf g 73 (kx_ml f k (n + 1)) := by
  rw [kv_up_uf, kv_uf_self, kv_uf_uf]
  congr 1
  funext j
  unfold upd kx_ml
  by_cases h : j = 40 * k + n
  · rw [if_pos h, if_pos (by omega)]
  · rw [if_neg h]
    by_cases h2 : 40 * k ≤ j ∧ j < 40 * k + n
    · rw [if_pos h2, if_pos (by omega)]
    · rw [if_neg h2, if_neg (by omega)]
set_option maxRecDepth 100000 in
theorem lp_msheet {E : kv_V} {d : Nat} {g : kv_S} {w : kv_W} (k : Nat) (hk : k < 4) (b sz : Int32) {P : Option Value → kv_H → Prop} (hP : P (some (.int 1)) (kv_wd (kv_uf g 73 (kx_ml (g 73) k 40)) w)) : ∀ n j : Nat, j + n = 40 → kx_V E d 211 93 [some (.ref 65), some (.int (nI k)), some (.int b), some (.int sz), some (.int (nI j))] [] (kv_wd (kv_uf g 73 (kx_ml (g 73) k j)) w) P := by
  intro n
  induction n with
  | zero =>
    intro j hkk
    have hkN : j = 40 := by omega
    refine kx_st 2 (pc' := 97) (L' := [some (.ref 65), some (.int (nI k)), some (.int b), some (.int sz), some (.int (nI j))]) (st' := [.int 40, .int (nI j)]) (h' := kv_wd (kv_uf g 73 (kx_ml (g 73) k j)) w) rfl ?_
    refine kx_bi (t := 119) rfl rfl (fun (h97 : 40 ≤ nI j) => ?_) (fun (h97 : ¬ (40 ≤ nI j)) => ?_)
    · refine kx_st 1 (pc' := 120) (L' := [some (.ref 65), some (.int (nI k)), some (.int b), some (.int sz), some (.int (nI j))]) (st' := [.int 1]) (h' := kv_wd (kv_uf g 73 (kx_ml (g 73) k j)) w) rfl ?_
      refine kx_ret (v := some (.int 1)) rfl ?_
      subst hkN
      exact hP
    · exact absurd (nI_le (a := 40) (b := j) (by omega) (by omega)) h97
  | succ n ih =>
    intro j hkk
    refine kx_st 2 (pc' := 97) (L' := [some (.ref 65), some (.int (nI k)), some (.int b), some (.int sz), some (.int (nI j))]) (st' := [.int 40, .int (nI j)]) (h' := kv_wd (kv_uf g 73 (kx_ml (g 73) k j)) w) rfl ?_
    refine kx_bi (t := 119) rfl rfl (fun (h97 : 40 ≤ nI j) => ?_) (fun (h97 : ¬ (40 ≤ nI j)) => ?_)
    · exact absurd h97 (nI_ge (a := j) (b := 40) (by omega) (by omega))
    · refine kx_st 0 (pc' := 100) (L' := [some (.ref 65), some (.int (nI k)), some (.int b), some (.int sz), some (.int (nI j))]) (st' := []) (h' := kv_wd (kv_uf g 73 (kx_ml (g 73) k j)) w) rfl ?_
      refine kx_st 8 (pc' := 112) (L' := [some (.ref 65), some (.int (nI k)), some (.int b), some (.int sz), some (.int (nI j))]) (st' := [.int 0, .int ((40 * (nI k)) + (nI j)), .ref 73]) (h' := kv_wd (kv_uf g 73 (kx_ml (g 73) k j)) w) rfl ?_
      refine kx_is (k := (40 * k + j)) rfl rfl (by decide) (kx_i40 k j) (by omega) (by decide) ?_
      refine kx_st 2 (pc' := 93) (L' := [some (.ref 65), some (.int (nI k)), some (.int b), some (.int sz), some (.int ((nI j) + 1))]) (st' := []) (h' := kv_wd (kv_up (kv_uf g 73 (kx_ml (g 73) k j)) 73 (40 * k + j) 0) w) rfl ?_
      rw [kx_ml_s, ← nI_succ]
      exact ih (j + 1) (by omega)
/-- the same of the reference -/
def kx_laym (g : kv_S) (k : Nat) (b n : Int32) : kv_S := kv_uf (kv_up (kv_up g 71 k b) 72 k n) 73 (kx_ml (kv_up (kv_up g 71 k b) 72 k n 73) k 40)
set_option maxRecDepth 100000 in
theorem ev_m_sheet {E : kv_V} {d : Nat} {g : kv_S} {w : kv_W} (k : Nat) (hk : k < 4) (b : Int32) (hb : b = 8 ∨ b = 16 ∨ b = 32) (n : Int32) (hn : ¬ n < 0) (h40 : n ≤ 40) : kv_ev E (d + 3) 211 [.ref 65, .int (nI k), .int b, .int n] (kv_wd g w) (some (.int 1)) (kv_wd (kx_laym g k b n) w) := by
  refine kx_ev (d := d + 2) (by decide) (Nat.le_of_ble_eq_true rfl) ?_
  refine kx_st 0 (pc' := 0) (L' := [some (.ref 65), some (.int (nI k)), some (.int b), some (.int n), none]) (st' := []) (h' := kv_wd g w) rfl ?_
  refine kx_st 1 (pc' := 1) (L' := [some (.ref 65), some (.int (nI k)), some (.int b), some (.int n), none]) (st' := [.int (nI k)]) (h' := kv_wd g w) rfl ?_
  refine kx_call (z := 200) (as := [.int (nI k)]) (rest := []) (v := some (.int (kx_b (0 ≤ nI k ∧ nI k ≤ 3)))) (h1 := kv_wd g w) rfl (ev_isSheet (d := d) (nI k)) ?_
  refine kx_st 0 (pc' := 4) (L' := [some (.ref 65), some (.int (nI k)), some (.int b), some (.int n), none]) (st' := [.int (kx_b (0 ≤ nI k ∧ nI k ≤ 3))]) (h' := kv_wd g w) rfl ?_
  refine kx_be (t := 29) rfl rfl (fun (h4 : ¬ (0 ≤ nI k ∧ nI k ≤ 3)) => ?_) (fun (h4 : (0 ≤ nI k ∧ nI k ≤ 3)) => ?_)
  · exact absurd (by rw [show (0 : Int32) = nI 0 from rfl]; exact ⟨nI_le (by omega) (by omega), nI_le (a := k) (b := 3) (by omega) (by omega)⟩) h4
  · refine kx_st 0 (pc' := 7) (L' := [some (.ref 65), some (.int (nI k)), some (.int b), some (.int n), none]) (st' := []) (h' := kv_wd g w) rfl ?_
    refine kx_st 1 (pc' := 8) (L' := [some (.ref 65), some (.int (nI k)), some (.int b), some (.int n), none]) (st' := [.int b]) (h' := kv_wd g w) rfl ?_
    refine kx_bc (t := 36) rfl rfl (fun (h8 : b = 0) => ?_) (fun (h8 : ¬ (b = 0)) => ?_)
    · exfalso; rcases hb with rfl | rfl | rfl <;> exact absurd h8 (by decide)
    · refine kx_st 0 (pc' := 11) (L' := [some (.ref 65), some (.int (nI k)), some (.int b), some (.int n), none]) (st' := []) (h' := kv_wd g w) rfl ?_
      refine kx_st 2 (pc' := 14) (L' := [some (.ref 65), some (.int (nI k)), some (.int b), some (.int n), none]) (st' := [.int 8, .int b]) (h' := kv_wd g w) rfl ?_
      refine kx_bi (t := 36) rfl rfl (fun (h14 : b = 8) => ?_) (fun (h14 : ¬ (b = 8)) => ?_)
      · refine kx_st 1 (pc' := 37) (L' := [some (.ref 65), some (.int (nI k)), some (.int b), some (.int n), none]) (st' := [.int b]) (h' := kv_wd g w) rfl ?_
        refine kx_bc (t := 51) rfl rfl (fun (h37 : b = 0) => ?_) (fun (h37 : ¬ (b = 0)) => ?_)
        · exfalso; rcases hb with rfl | rfl | rfl <;> exact absurd h37 (by decide)
        · refine kx_st 0 (pc' := 40) (L' := [some (.ref 65), some (.int (nI k)), some (.int b), some (.int n), none]) (st' := []) (h' := kv_wd g w) rfl ?_
          refine kx_st 1 (pc' := 41) (L' := [some (.ref 65), some (.int (nI k)), some (.int b), some (.int n), none]) (st' := [.int n]) (h' := kv_wd g w) rfl ?_
          refine kx_bc (t := 51) rfl rfl (fun (h41 : 0 ≤ n) => ?_) (fun (h41 : ¬ (0 ≤ n)) => ?_)
          · refine kx_st 1 (pc' := 52) (L' := [some (.ref 65), some (.int (nI k)), some (.int b), some (.int n), none]) (st' := [.int b]) (h' := kv_wd g w) rfl ?_
            refine kx_bc (t := 68) rfl rfl (fun (h52 : b = 0) => ?_) (fun (h52 : ¬ (b = 0)) => ?_)
            · exfalso; rcases hb with rfl | rfl | rfl <;> exact absurd h52 (by decide)
            · refine kx_st 0 (pc' := 55) (L' := [some (.ref 65), some (.int (nI k)), some (.int b), some (.int n), none]) (st' := []) (h' := kv_wd g w) rfl ?_
              refine kx_st 2 (pc' := 58) (L' := [some (.ref 65), some (.int (nI k)), some (.int b), some (.int n), none]) (st' := [.int 40, .int n]) (h' := kv_wd g w) rfl ?_
              refine kx_bi (t := 68) rfl rfl (fun (h58 : n ≤ 40) => ?_) (fun (h58 : ¬ (n ≤ 40)) => ?_)
              · refine kx_st 4 (pc' := 74) (L' := [some (.ref 65), some (.int (nI k)), some (.int b), some (.int n), none]) (st' := [.int b, .int (nI k), .ref 71]) (h' := kv_wd g w) rfl ?_
                refine kx_is (k := k) rfl rfl (by decide) rfl (by omega) (by decide) ?_
                refine kx_st 4 (pc' := 81) (L' := [some (.ref 65), some (.int (nI k)), some (.int b), some (.int n), none]) (st' := [.int b, .int (nI k), .ref 72]) (h' := kv_wd (kv_up g 71 k b) w) rfl ?_
                refine kx_bc (t := 88) rfl rfl (fun (h81 : ¬ b = 0) => ?_) (fun (h81 : ¬ (¬ b = 0)) => ?_)
                · refine kx_st 1 (pc' := 89) (L' := [some (.ref 65), some (.int (nI k)), some (.int b), some (.int n), none]) (st' := [.int n, .int (nI k), .ref 72]) (h' := kv_wd (kv_up g 71 k b) w) rfl ?_
                  refine kx_is (k := k) rfl rfl (by decide) rfl (by omega) (by decide) ?_
                  refine kx_st 2 (pc' := 93) (L' := [some (.ref 65), some (.int (nI k)), some (.int b), some (.int n), some (.int 0)]) (st' := []) (h' := kv_wd (kv_up (kv_up g 71 k b) 72 k n) w) rfl ?_
                  have h := lp_msheet (E := E) (d := d + 2) (g := kv_up (kv_up g 71 k b) 72 k n) (w := w) k hk b n (P := fun v h' => v = some (.int 1) ∧ h' = kv_wd (kx_laym g k b n) w) ⟨rfl, rfl⟩ 40 0 (by omega)
                  rw [kx_ml_0, kv_uf_id] at h
                  exact h
                · exfalso; rcases hb with rfl | rfl | rfl <;> exact absurd (Classical.not_not.mp h81) (by decide)
              · exact absurd h40 h58
          · exact absurd (Int32.not_lt.mp hn) h41
      · refine kx_st 0 (pc' := 17) (L' := [some (.ref 65), some (.int (nI k)), some (.int b), some (.int n), none]) (st' := []) (h' := kv_wd g w) rfl ?_
        refine kx_st 2 (pc' := 20) (L' := [some (.ref 65), some (.int (nI k)), some (.int b), some (.int n), none]) (st' := [.int 16, .int b]) (h' := kv_wd g w) rfl ?_
        refine kx_bi (t := 36) rfl rfl (fun (h20 : b = 16) => ?_) (fun (h20 : ¬ (b = 16)) => ?_)
        · refine kx_st 1 (pc' := 37) (L' := [some (.ref 65), some (.int (nI k)), some (.int b), some (.int n), none]) (st' := [.int b]) (h' := kv_wd g w) rfl ?_
          refine kx_bc (t := 51) rfl rfl (fun (h37 : b = 0) => ?_) (fun (h37 : ¬ (b = 0)) => ?_)
          · exfalso; rcases hb with rfl | rfl | rfl <;> exact absurd h37 (by decide)
          · refine kx_st 0 (pc' := 40) (L' := [some (.ref 65), some (.int (nI k)), some (.int b), some (.int n), none]) (st' := []) (h' := kv_wd g w) rfl ?_
            refine kx_st 1 (pc' := 41) (L' := [some (.ref 65), some (.int (nI k)), some (.int b), some (.int n), none]) (st' := [.int n]) (h' := kv_wd g w) rfl ?_
            refine kx_bc (t := 51) rfl rfl (fun (h41 : 0 ≤ n) => ?_) (fun (h41 : ¬ (0 ≤ n)) => ?_)
            · refine kx_st 1 (pc' := 52) (L' := [some (.ref 65), some (.int (nI k)), some (.int b), some (.int n), none]) (st' := [.int b]) (h' := kv_wd g w) rfl ?_
              refine kx_bc (t := 68) rfl rfl (fun (h52 : b = 0) => ?_) (fun (h52 : ¬ (b = 0)) => ?_)
              · exfalso; rcases hb with rfl | rfl | rfl <;> exact absurd h52 (by decide)
              · refine kx_st 0 (pc' := 55) (L' := [some (.ref 65), some (.int (nI k)), some (.int b), some (.int n), none]) (st' := []) (h' := kv_wd g w) rfl ?_
                refine kx_st 2 (pc' := 58) (L' := [some (.ref 65), some (.int (nI k)), some (.int b), some (.int n), none]) (st' := [.int 40, .int n]) (h' := kv_wd g w) rfl ?_
                refine kx_bi (t := 68) rfl rfl (fun (h58 : n ≤ 40) => ?_) (fun (h58 : ¬ (n ≤ 40)) => ?_)
                · refine kx_st 4 (pc' := 74) (L' := [some (.ref 65), some (.int (nI k)), some (.int b), some (.int n), none]) (st' := [.int b, .int (nI k), .ref 71]) (h' := kv_wd g w) rfl ?_
                  refine kx_is (k := k) rfl rfl (by decide) rfl (by omega) (by decide) ?_
                  refine kx_st 4 (pc' := 81) (L' := [some (.ref 65), some (.int (nI k)), some (.int b), some (.int n), none]) (st' := [.int b, .int (nI k), .ref 72]) (h' := kv_wd (kv_up g 71 k b) w) rfl ?_
                  refine kx_bc (t := 88) rfl rfl (fun (h81 : ¬ b = 0) => ?_) (fun (h81 : ¬ (¬ b = 0)) => ?_)
                  · refine kx_st 1 (pc' := 89) (L' := [some (.ref 65), some (.int (nI k)), some (.int b), some (.int n), none]) (st' := [.int n, .int (nI k), .ref 72]) (h' := kv_wd (kv_up g 71 k b) w) rfl ?_
                    refine kx_is (k := k) rfl rfl (by decide) rfl (by omega) (by decide) ?_
                    refine kx_st 2 (pc' := 93) (L' := [some (.ref 65), some (.int (nI k)), some (.int b), some (.int n), some (.int 0)]) (st' := []) (h' := kv_wd (kv_up (kv_up g 71 k b) 72 k n) w) rfl ?_
                    have h := lp_msheet (E := E) (d := d + 2) (g := kv_up (kv_up g 71 k b) 72 k n) (w := w) k hk b n (P := fun v h' => v = some (.int 1) ∧ h' = kv_wd (kx_laym g k b n) w) ⟨rfl, rfl⟩ 40 0 (by omega)
                    rw [kx_ml_0, kv_uf_id] at h
                    exact h
                  · exfalso; rcases hb with rfl | rfl | rfl <;> exact absurd (Classical.not_not.mp h81) (by decide)
                · exact absurd h40 h58
            · exact absurd (Int32.not_lt.mp hn) h41
        · refine kx_st 0 (pc' := 23) (L' := [some (.ref 65), some (.int (nI k)), some (.int b), some (.int n), none]) (st' := []) (h' := kv_wd g w) rfl ?_
          refine kx_st 2 (pc' := 26) (L' := [some (.ref 65), some (.int (nI k)), some (.int b), some (.int n), none]) (st' := [.int 32, .int b]) (h' := kv_wd g w) rfl ?_
          refine kx_bi (t := 36) rfl rfl (fun (h26 : b = 32) => ?_) (fun (h26 : ¬ (b = 32)) => ?_)
          · refine kx_st 1 (pc' := 37) (L' := [some (.ref 65), some (.int (nI k)), some (.int b), some (.int n), none]) (st' := [.int b]) (h' := kv_wd g w) rfl ?_
            refine kx_bc (t := 51) rfl rfl (fun (h37 : b = 0) => ?_) (fun (h37 : ¬ (b = 0)) => ?_)
            · exfalso; rcases hb with rfl | rfl | rfl <;> exact absurd h37 (by decide)
            · refine kx_st 0 (pc' := 40) (L' := [some (.ref 65), some (.int (nI k)), some (.int b), some (.int n), none]) (st' := []) (h' := kv_wd g w) rfl ?_
              refine kx_st 1 (pc' := 41) (L' := [some (.ref 65), some (.int (nI k)), some (.int b), some (.int n), none]) (st' := [.int n]) (h' := kv_wd g w) rfl ?_
              refine kx_bc (t := 51) rfl rfl (fun (h41 : 0 ≤ n) => ?_) (fun (h41 : ¬ (0 ≤ n)) => ?_)
              · refine kx_st 1 (pc' := 52) (L' := [some (.ref 65), some (.int (nI k)), some (.int b), some (.int n), none]) (st' := [.int b]) (h' := kv_wd g w) rfl ?_
                refine kx_bc (t := 68) rfl rfl (fun (h52 : b = 0) => ?_) (fun (h52 : ¬ (b = 0)) => ?_)
                · exfalso; rcases hb with rfl | rfl | rfl <;> exact absurd h52 (by decide)
                · refine kx_st 0 (pc' := 55) (L' := [some (.ref 65), some (.int (nI k)), some (.int b), some (.int n), none]) (st' := []) (h' := kv_wd g w) rfl ?_
                  refine kx_st 2 (pc' := 58) (L' := [some (.ref 65), some (.int (nI k)), some (.int b), some (.int n), none]) (st' := [.int 40, .int n]) (h' := kv_wd g w) rfl ?_
                  refine kx_bi (t := 68) rfl rfl (fun (h58 : n ≤ 40) => ?_) (fun (h58 : ¬ (n ≤ 40)) => ?_)
                  · refine kx_st 4 (pc' := 74) (L' := [some (.ref 65), some (.int (nI k)), some (.int b), some (.int n), none]) (st' := [.int b, .int (nI k), .ref 71]) (h' := kv_wd g w) rfl ?_
                    refine kx_is (k := k) rfl rfl (by decide) rfl (by omega) (by decide) ?_
                    refine kx_st 4 (pc' := 81) (L' := [some (.ref 65), some (.int (nI k)), some (.int b), some (.int n), none]) (st' := [.int b, .int (nI k), .ref 72]) (h' := kv_wd (kv_up g 71 k b) w) rfl ?_
                    refine kx_bc (t := 88) rfl rfl (fun (h81 : ¬ b = 0) => ?_) (fun (h81 : ¬ (¬ b = 0)) => ?_)
                    · refine kx_st 1 (pc' := 89) (L' := [some (.ref 65), some (.int (nI k)), some (.int b), some (.int n), none]) (st' := [.int n, .int (nI k), .ref 72]) (h' := kv_wd (kv_up g 71 k b) w) rfl ?_
                      refine kx_is (k := k) rfl rfl (by decide) rfl (by omega) (by decide) ?_
                      refine kx_st 2 (pc' := 93) (L' := [some (.ref 65), some (.int (nI k)), some (.int b), some (.int n), some (.int 0)]) (st' := []) (h' := kv_wd (kv_up (kv_up g 71 k b) 72 k n) w) rfl ?_
                      have h := lp_msheet (E := E) (d := d + 2) (g := kv_up (kv_up g 71 k b) 72 k n) (w := w) k hk b n (P := fun v h' => v = some (.int 1) ∧ h' = kv_wd (kx_laym g k b n) w) ⟨rfl, rfl⟩ 40 0 (by omega)
                      rw [kx_ml_0, kv_uf_id] at h
                      exact h
                    · exfalso; rcases hb with rfl | rfl | rfl <;> exact absurd (Classical.not_not.mp h81) (by decide)
                  · exact absurd h40 h58
              · exact absurd (Int32.not_lt.mp hn) h41
          · exfalso; rcases hb with rfl | rfl | rfl <;> contradiction
set_option maxRecDepth 100000 in
theorem ev_m_sheet0 {E : kv_V} {d : Nat} {g : kv_S} {w : kv_W} (k : Nat) (hk : k < 4) (n : Int32) : kv_ev E (d + 3) 211 [.ref 65, .int (nI k), .int 0, .int n] (kv_wd g w) (some (.int 1)) (kv_wd (kx_laym g k 0 0) w) := by
  refine kx_ev (d := d + 2) (by decide) (Nat.le_of_ble_eq_true rfl) ?_
  refine kx_st 0 (pc' := 0) (L' := [some (.ref 65), some (.int (nI k)), some (.int 0), some (.int n), none]) (st' := []) (h' := kv_wd g w) rfl ?_
  refine kx_st 1 (pc' := 1) (L' := [some (.ref 65), some (.int (nI k)), some (.int 0), some (.int n), none]) (st' := [.int (nI k)]) (h' := kv_wd g w) rfl ?_
  refine kx_call (z := 200) (as := [.int (nI k)]) (rest := []) (v := some (.int (kx_b (0 ≤ nI k ∧ nI k ≤ 3)))) (h1 := kv_wd g w) rfl (ev_isSheet (d := d) (nI k)) ?_
  refine kx_st 0 (pc' := 4) (L' := [some (.ref 65), some (.int (nI k)), some (.int 0), some (.int n), none]) (st' := [.int (kx_b (0 ≤ nI k ∧ nI k ≤ 3))]) (h' := kv_wd g w) rfl ?_
  refine kx_be (t := 29) rfl rfl (fun (h4 : ¬ (0 ≤ nI k ∧ nI k ≤ 3)) => ?_) (fun (h4 : (0 ≤ nI k ∧ nI k ≤ 3)) => ?_)
  · exact absurd (by rw [show (0 : Int32) = nI 0 from rfl]; exact ⟨nI_le (by omega) (by omega), nI_le (a := k) (b := 3) (by omega) (by omega)⟩) h4
  · refine kx_st 0 (pc' := 7) (L' := [some (.ref 65), some (.int (nI k)), some (.int 0), some (.int n), none]) (st' := []) (h' := kv_wd g w) rfl ?_
    refine kx_st 1 (pc' := 8) (L' := [some (.ref 65), some (.int (nI k)), some (.int 0), some (.int n), none]) (st' := [.int 0]) (h' := kv_wd g w) rfl ?_
    refine kx_jt (t := 36) rfl rfl (by decide) ?_
    refine kx_st 0 (pc' := 36) (L' := [some (.ref 65), some (.int (nI k)), some (.int 0), some (.int n), none]) (st' := []) (h' := kv_wd g w) rfl ?_
    refine kx_st 1 (pc' := 37) (L' := [some (.ref 65), some (.int (nI k)), some (.int 0), some (.int n), none]) (st' := [.int 0]) (h' := kv_wd g w) rfl ?_
    refine kx_jt (t := 51) rfl rfl (by decide) ?_
    refine kx_st 0 (pc' := 51) (L' := [some (.ref 65), some (.int (nI k)), some (.int 0), some (.int n), none]) (st' := []) (h' := kv_wd g w) rfl ?_
    refine kx_st 1 (pc' := 52) (L' := [some (.ref 65), some (.int (nI k)), some (.int 0), some (.int n), none]) (st' := [.int 0]) (h' := kv_wd g w) rfl ?_
    refine kx_jt (t := 68) rfl rfl (by decide) ?_
    refine kx_st 0 (pc' := 68) (L' := [some (.ref 65), some (.int (nI k)), some (.int 0), some (.int n), none]) (st' := []) (h' := kv_wd g w) rfl ?_
    refine kx_st 4 (pc' := 74) (L' := [some (.ref 65), some (.int (nI k)), some (.int 0), some (.int n), none]) (st' := [.int 0, .int (nI k), .ref 71]) (h' := kv_wd g w) rfl ?_
    refine kx_is (k := k) rfl rfl (by decide) rfl (by omega) (by decide) ?_
    refine kx_st 4 (pc' := 81) (L' := [some (.ref 65), some (.int (nI k)), some (.int 0), some (.int n), none]) (st' := [.int 0, .int (nI k), .ref 72]) (h' := kv_wd (kv_up g 71 k 0) w) rfl ?_
    refine kx_jf (t := 88) rfl rfl (by decide) ?_
    refine kx_st 0 (pc' := 84) (L' := [some (.ref 65), some (.int (nI k)), some (.int 0), some (.int n), none]) (st' := [.int (nI k), .ref 72]) (h' := kv_wd (kv_up g 71 k 0) w) rfl ?_
    refine kx_st 2 (pc' := 89) (L' := [some (.ref 65), some (.int (nI k)), some (.int 0), some (.int n), none]) (st' := [.int 0, .int (nI k), .ref 72]) (h' := kv_wd (kv_up g 71 k 0) w) rfl ?_
    refine kx_is (k := k) rfl rfl (by decide) rfl (by omega) (by decide) ?_
    refine kx_st 2 (pc' := 93) (L' := [some (.ref 65), some (.int (nI k)), some (.int 0), some (.int n), some (.int 0)]) (st' := []) (h' := kv_wd (kv_up (kv_up g 71 k 0) 72 k 0) w) rfl ?_
    have h := lp_msheet (E := E) (d := d + 2) (g := kv_up (kv_up g 71 k 0) 72 k 0) (w := w) k hk 0 n (P := fun v h' => v = some (.int 1) ∧ h' = kv_wd (kx_laym g k 0 0) w) ⟨rfl, rfl⟩ 40 0 (by omega)
    rw [kx_ml_0, kv_uf_id] at h
    exact h
set_option maxRecDepth 100000 in
theorem ev_m_sheet_s {E : kv_V} {d : Nat} {g : kv_S} {w : kv_W} (k : Nat) (hk : k < 4) (b : Int32) (hb : b = 8 ∨ b = 16 ∨ b = 32) (n : Int32) (hn : n < 0) : kv_ev E (d + 3) 211 [.ref 65, .int (nI k), .int b, .int n] (kv_wd g w) (some (.int (-1000000003))) (kv_wd (kv_up g 70 3 (g 70 3 + 1)) w) := by
  refine kx_ev (d := d + 2) (by decide) (Nat.le_of_ble_eq_true rfl) ?_
  refine kx_st 0 (pc' := 0) (L' := [some (.ref 65), some (.int (nI k)), some (.int b), some (.int n), none]) (st' := []) (h' := kv_wd g w) rfl ?_
  refine kx_st 1 (pc' := 1) (L' := [some (.ref 65), some (.int (nI k)), some (.int b), some (.int n), none]) (st' := [.int (nI k)]) (h' := kv_wd g w) rfl ?_
  refine kx_call (z := 200) (as := [.int (nI k)]) (rest := []) (v := some (.int (kx_b (0 ≤ nI k ∧ nI k ≤ 3)))) (h1 := kv_wd g w) rfl (ev_isSheet (d := d) (nI k)) ?_
  refine kx_st 0 (pc' := 4) (L' := [some (.ref 65), some (.int (nI k)), some (.int b), some (.int n), none]) (st' := [.int (kx_b (0 ≤ nI k ∧ nI k ≤ 3))]) (h' := kv_wd g w) rfl ?_
  refine kx_be (t := 29) rfl rfl (fun (h4 : ¬ (0 ≤ nI k ∧ nI k ≤ 3)) => ?_) (fun (h4 : (0 ≤ nI k ∧ nI k ≤ 3)) => ?_)
  · exact absurd (by rw [show (0 : Int32) = nI 0 from rfl]; exact ⟨nI_le (by omega) (by omega), nI_le (a := k) (b := 3) (by omega) (by omega)⟩) h4
  · refine kx_st 0 (pc' := 7) (L' := [some (.ref 65), some (.int (nI k)), some (.int b), some (.int n), none]) (st' := []) (h' := kv_wd g w) rfl ?_
    refine kx_st 1 (pc' := 8) (L' := [some (.ref 65), some (.int (nI k)), some (.int b), some (.int n), none]) (st' := [.int b]) (h' := kv_wd g w) rfl ?_
    refine kx_bc (t := 36) rfl rfl (fun (h8 : b = 0) => ?_) (fun (h8 : ¬ (b = 0)) => ?_)
    · exfalso; rcases hb with rfl | rfl | rfl <;> exact absurd h8 (by decide)
    · refine kx_st 0 (pc' := 11) (L' := [some (.ref 65), some (.int (nI k)), some (.int b), some (.int n), none]) (st' := []) (h' := kv_wd g w) rfl ?_
      refine kx_st 2 (pc' := 14) (L' := [some (.ref 65), some (.int (nI k)), some (.int b), some (.int n), none]) (st' := [.int 8, .int b]) (h' := kv_wd g w) rfl ?_
      refine kx_bi (t := 36) rfl rfl (fun (h14 : b = 8) => ?_) (fun (h14 : ¬ (b = 8)) => ?_)
      · refine kx_st 1 (pc' := 37) (L' := [some (.ref 65), some (.int (nI k)), some (.int b), some (.int n), none]) (st' := [.int b]) (h' := kv_wd g w) rfl ?_
        refine kx_bc (t := 51) rfl rfl (fun (h37 : b = 0) => ?_) (fun (h37 : ¬ (b = 0)) => ?_)
        · exfalso; rcases hb with rfl | rfl | rfl <;> exact absurd h37 (by decide)
        · refine kx_st 0 (pc' := 40) (L' := [some (.ref 65), some (.int (nI k)), some (.int b), some (.int n), none]) (st' := []) (h' := kv_wd g w) rfl ?_
          refine kx_st 1 (pc' := 41) (L' := [some (.ref 65), some (.int (nI k)), some (.int b), some (.int n), none]) (st' := [.int n]) (h' := kv_wd g w) rfl ?_
          refine kx_bc (t := 51) rfl rfl (fun (h41 : 0 ≤ n) => ?_) (fun (h41 : ¬ (0 ≤ n)) => ?_)
          · exact absurd h41 (Int32.not_le.mpr hn)
          · refine kx_st 0 (pc' := 44) (L' := [some (.ref 65), some (.int (nI k)), some (.int b), some (.int n), none]) (st' := []) (h' := kv_wd g w) rfl ?_
            refine kx_st 2 (pc' := 47) (L' := [some (.ref 65), some (.int (nI k)), some (.int b), some (.int n), none]) (st' := [.int (-1000000003), .ref 65]) (h' := kv_wd g w) rfl ?_
            refine kx_call (z := 131) (as := [.ref 65, .int (-1000000003)]) (rest := []) (v := some (.int (-1000000003))) (h1 := kv_wd (kv_up g 70 3 (g 70 3 + 1)) w) rfl (ev_errs (d := d + 1) (-1000000003) 3 (by decide) (by decide)) ?_
            refine kx_st 0 (pc' := 50) (L' := [some (.ref 65), some (.int (nI k)), some (.int b), some (.int n), none]) (st' := [.int (-1000000003)]) (h' := kv_wd (kv_up g 70 3 (g 70 3 + 1)) w) rfl ?_
            refine kx_ret (v := some (.int (-1000000003))) rfl ?_
            exact ⟨rfl, rfl⟩
      · refine kx_st 0 (pc' := 17) (L' := [some (.ref 65), some (.int (nI k)), some (.int b), some (.int n), none]) (st' := []) (h' := kv_wd g w) rfl ?_
        refine kx_st 2 (pc' := 20) (L' := [some (.ref 65), some (.int (nI k)), some (.int b), some (.int n), none]) (st' := [.int 16, .int b]) (h' := kv_wd g w) rfl ?_
        refine kx_bi (t := 36) rfl rfl (fun (h20 : b = 16) => ?_) (fun (h20 : ¬ (b = 16)) => ?_)
        · refine kx_st 1 (pc' := 37) (L' := [some (.ref 65), some (.int (nI k)), some (.int b), some (.int n), none]) (st' := [.int b]) (h' := kv_wd g w) rfl ?_
          refine kx_bc (t := 51) rfl rfl (fun (h37 : b = 0) => ?_) (fun (h37 : ¬ (b = 0)) => ?_)
          · exfalso; rcases hb with rfl | rfl | rfl <;> exact absurd h37 (by decide)
          · refine kx_st 0 (pc' := 40) (L' := [some (.ref 65), some (.int (nI k)), some (.int b), some (.int n), none]) (st' := []) (h' := kv_wd g w) rfl ?_
            refine kx_st 1 (pc' := 41) (L' := [some (.ref 65), some (.int (nI k)), some (.int b), some (.int n), none]) (st' := [.int n]) (h' := kv_wd g w) rfl ?_
            refine kx_bc (t := 51) rfl rfl (fun (h41 : 0 ≤ n) => ?_) (fun (h41 : ¬ (0 ≤ n)) => ?_)
            · exact absurd h41 (Int32.not_le.mpr hn)
            · refine kx_st 0 (pc' := 44) (L' := [some (.ref 65), some (.int (nI k)), some (.int b), some (.int n), none]) (st' := []) (h' := kv_wd g w) rfl ?_
              refine kx_st 2 (pc' := 47) (L' := [some (.ref 65), some (.int (nI k)), some (.int b), some (.int n), none]) (st' := [.int (-1000000003), .ref 65]) (h' := kv_wd g w) rfl ?_
              refine kx_call (z := 131) (as := [.ref 65, .int (-1000000003)]) (rest := []) (v := some (.int (-1000000003))) (h1 := kv_wd (kv_up g 70 3 (g 70 3 + 1)) w) rfl (ev_errs (d := d + 1) (-1000000003) 3 (by decide) (by decide)) ?_
              refine kx_st 0 (pc' := 50) (L' := [some (.ref 65), some (.int (nI k)), some (.int b), some (.int n), none]) (st' := [.int (-1000000003)]) (h' := kv_wd (kv_up g 70 3 (g 70 3 + 1)) w) rfl ?_
              refine kx_ret (v := some (.int (-1000000003))) rfl ?_
              exact ⟨rfl, rfl⟩
        · refine kx_st 0 (pc' := 23) (L' := [some (.ref 65), some (.int (nI k)), some (.int b), some (.int n), none]) (st' := []) (h' := kv_wd g w) rfl ?_
          refine kx_st 2 (pc' := 26) (L' := [some (.ref 65), some (.int (nI k)), some (.int b), some (.int n), none]) (st' := [.int 32, .int b]) (h' := kv_wd g w) rfl ?_
          refine kx_bi (t := 36) rfl rfl (fun (h26 : b = 32) => ?_) (fun (h26 : ¬ (b = 32)) => ?_)
          · refine kx_st 1 (pc' := 37) (L' := [some (.ref 65), some (.int (nI k)), some (.int b), some (.int n), none]) (st' := [.int b]) (h' := kv_wd g w) rfl ?_
            refine kx_bc (t := 51) rfl rfl (fun (h37 : b = 0) => ?_) (fun (h37 : ¬ (b = 0)) => ?_)
            · exfalso; rcases hb with rfl | rfl | rfl <;> exact absurd h37 (by decide)
            · refine kx_st 0 (pc' := 40) (L' := [some (.ref 65), some (.int (nI k)), some (.int b), some (.int n), none]) (st' := []) (h' := kv_wd g w) rfl ?_
              refine kx_st 1 (pc' := 41) (L' := [some (.ref 65), some (.int (nI k)), some (.int b), some (.int n), none]) (st' := [.int n]) (h' := kv_wd g w) rfl ?_
              refine kx_bc (t := 51) rfl rfl (fun (h41 : 0 ≤ n) => ?_) (fun (h41 : ¬ (0 ≤ n)) => ?_)
              · exact absurd h41 (Int32.not_le.mpr hn)
              · refine kx_st 0 (pc' := 44) (L' := [some (.ref 65), some (.int (nI k)), some (.int b), some (.int n), none]) (st' := []) (h' := kv_wd g w) rfl ?_
                refine kx_st 2 (pc' := 47) (L' := [some (.ref 65), some (.int (nI k)), some (.int b), some (.int n), none]) (st' := [.int (-1000000003), .ref 65]) (h' := kv_wd g w) rfl ?_
                refine kx_call (z := 131) (as := [.ref 65, .int (-1000000003)]) (rest := []) (v := some (.int (-1000000003))) (h1 := kv_wd (kv_up g 70 3 (g 70 3 + 1)) w) rfl (ev_errs (d := d + 1) (-1000000003) 3 (by decide) (by decide)) ?_
                refine kx_st 0 (pc' := 50) (L' := [some (.ref 65), some (.int (nI k)), some (.int b), some (.int n), none]) (st' := [.int (-1000000003)]) (h' := kv_wd (kv_up g 70 3 (g 70 3 + 1)) w) rfl ?_
                refine kx_ret (v := some (.int (-1000000003))) rfl ?_
                exact ⟨rfl, rfl⟩
          · exfalso; rcases hb with rfl | rfl | rfl <;> contradiction
set_option maxRecDepth 100000 in
theorem ev_m_sheet_b {E : kv_V} {d : Nat} {g : kv_S} {w : kv_W} (k : Nat) (hk : k < 4) (b : Int32) (hb : b = 8 ∨ b = 16 ∨ b = 32) (n : Int32) (hn : ¬ n < 0) (h40 : ¬ n ≤ 40) : kv_ev E (d + 3) 211 [.ref 65, .int (nI k), .int b, .int n] (kv_wd g w) (some (.int (-1000000001))) (kv_wd (kv_up g 70 1 (g 70 1 + 1)) w) := by
  refine kx_ev (d := d + 2) (by decide) (Nat.le_of_ble_eq_true rfl) ?_
  refine kx_st 0 (pc' := 0) (L' := [some (.ref 65), some (.int (nI k)), some (.int b), some (.int n), none]) (st' := []) (h' := kv_wd g w) rfl ?_
  refine kx_st 1 (pc' := 1) (L' := [some (.ref 65), some (.int (nI k)), some (.int b), some (.int n), none]) (st' := [.int (nI k)]) (h' := kv_wd g w) rfl ?_
  refine kx_call (z := 200) (as := [.int (nI k)]) (rest := []) (v := some (.int (kx_b (0 ≤ nI k ∧ nI k ≤ 3)))) (h1 := kv_wd g w) rfl (ev_isSheet (d := d) (nI k)) ?_
  refine kx_st 0 (pc' := 4) (L' := [some (.ref 65), some (.int (nI k)), some (.int b), some (.int n), none]) (st' := [.int (kx_b (0 ≤ nI k ∧ nI k ≤ 3))]) (h' := kv_wd g w) rfl ?_
  refine kx_be (t := 29) rfl rfl (fun (h4 : ¬ (0 ≤ nI k ∧ nI k ≤ 3)) => ?_) (fun (h4 : (0 ≤ nI k ∧ nI k ≤ 3)) => ?_)
  · exact absurd (by rw [show (0 : Int32) = nI 0 from rfl]; exact ⟨nI_le (by omega) (by omega), nI_le (a := k) (b := 3) (by omega) (by omega)⟩) h4
  · refine kx_st 0 (pc' := 7) (L' := [some (.ref 65), some (.int (nI k)), some (.int b), some (.int n), none]) (st' := []) (h' := kv_wd g w) rfl ?_
    refine kx_st 1 (pc' := 8) (L' := [some (.ref 65), some (.int (nI k)), some (.int b), some (.int n), none]) (st' := [.int b]) (h' := kv_wd g w) rfl ?_
    refine kx_bc (t := 36) rfl rfl (fun (h8 : b = 0) => ?_) (fun (h8 : ¬ (b = 0)) => ?_)
    · exfalso; rcases hb with rfl | rfl | rfl <;> exact absurd h8 (by decide)
    · refine kx_st 0 (pc' := 11) (L' := [some (.ref 65), some (.int (nI k)), some (.int b), some (.int n), none]) (st' := []) (h' := kv_wd g w) rfl ?_
      refine kx_st 2 (pc' := 14) (L' := [some (.ref 65), some (.int (nI k)), some (.int b), some (.int n), none]) (st' := [.int 8, .int b]) (h' := kv_wd g w) rfl ?_
      refine kx_bi (t := 36) rfl rfl (fun (h14 : b = 8) => ?_) (fun (h14 : ¬ (b = 8)) => ?_)
      · refine kx_st 1 (pc' := 37) (L' := [some (.ref 65), some (.int (nI k)), some (.int b), some (.int n), none]) (st' := [.int b]) (h' := kv_wd g w) rfl ?_
        refine kx_bc (t := 51) rfl rfl (fun (h37 : b = 0) => ?_) (fun (h37 : ¬ (b = 0)) => ?_)
        · exfalso; rcases hb with rfl | rfl | rfl <;> exact absurd h37 (by decide)
        · refine kx_st 0 (pc' := 40) (L' := [some (.ref 65), some (.int (nI k)), some (.int b), some (.int n), none]) (st' := []) (h' := kv_wd g w) rfl ?_
          refine kx_st 1 (pc' := 41) (L' := [some (.ref 65), some (.int (nI k)), some (.int b), some (.int n), none]) (st' := [.int n]) (h' := kv_wd g w) rfl ?_
          refine kx_bc (t := 51) rfl rfl (fun (h41 : 0 ≤ n) => ?_) (fun (h41 : ¬ (0 ≤ n)) => ?_)
          · refine kx_st 1 (pc' := 52) (L' := [some (.ref 65), some (.int (nI k)), some (.int b), some (.int n), none]) (st' := [.int b]) (h' := kv_wd g w) rfl ?_
            refine kx_bc (t := 68) rfl rfl (fun (h52 : b = 0) => ?_) (fun (h52 : ¬ (b = 0)) => ?_)
            · exfalso; rcases hb with rfl | rfl | rfl <;> exact absurd h52 (by decide)
            · refine kx_st 0 (pc' := 55) (L' := [some (.ref 65), some (.int (nI k)), some (.int b), some (.int n), none]) (st' := []) (h' := kv_wd g w) rfl ?_
              refine kx_st 2 (pc' := 58) (L' := [some (.ref 65), some (.int (nI k)), some (.int b), some (.int n), none]) (st' := [.int 40, .int n]) (h' := kv_wd g w) rfl ?_
              refine kx_bi (t := 68) rfl rfl (fun (h58 : n ≤ 40) => ?_) (fun (h58 : ¬ (n ≤ 40)) => ?_)
              · exact absurd h58 h40
              · refine kx_st 0 (pc' := 61) (L' := [some (.ref 65), some (.int (nI k)), some (.int b), some (.int n), none]) (st' := []) (h' := kv_wd g w) rfl ?_
                refine kx_st 2 (pc' := 64) (L' := [some (.ref 65), some (.int (nI k)), some (.int b), some (.int n), none]) (st' := [.int (-1000000001), .ref 65]) (h' := kv_wd g w) rfl ?_
                refine kx_call (z := 131) (as := [.ref 65, .int (-1000000001)]) (rest := []) (v := some (.int (-1000000001))) (h1 := kv_wd (kv_up g 70 1 (g 70 1 + 1)) w) rfl (ev_errs (d := d + 1) (-1000000001) 1 (by decide) (by decide)) ?_
                refine kx_st 0 (pc' := 67) (L' := [some (.ref 65), some (.int (nI k)), some (.int b), some (.int n), none]) (st' := [.int (-1000000001)]) (h' := kv_wd (kv_up g 70 1 (g 70 1 + 1)) w) rfl ?_
                refine kx_ret (v := some (.int (-1000000001))) rfl ?_
                exact ⟨rfl, rfl⟩
          · exact absurd (Int32.not_lt.mp hn) h41
      · refine kx_st 0 (pc' := 17) (L' := [some (.ref 65), some (.int (nI k)), some (.int b), some (.int n), none]) (st' := []) (h' := kv_wd g w) rfl ?_
        refine kx_st 2 (pc' := 20) (L' := [some (.ref 65), some (.int (nI k)), some (.int b), some (.int n), none]) (st' := [.int 16, .int b]) (h' := kv_wd g w) rfl ?_
        refine kx_bi (t := 36) rfl rfl (fun (h20 : b = 16) => ?_) (fun (h20 : ¬ (b = 16)) => ?_)
        · refine kx_st 1 (pc' := 37) (L' := [some (.ref 65), some (.int (nI k)), some (.int b), some (.int n), none]) (st' := [.int b]) (h' := kv_wd g w) rfl ?_
          refine kx_bc (t := 51) rfl rfl (fun (h37 : b = 0) => ?_) (fun (h37 : ¬ (b = 0)) => ?_)
          · exfalso; rcases hb with rfl | rfl | rfl <;> exact absurd h37 (by decide)
          · refine kx_st 0 (pc' := 40) (L' := [some (.ref 65), some (.int (nI k)), some (.int b), some (.int n), none]) (st' := []) (h' := kv_wd g w) rfl ?_
            refine kx_st 1 (pc' := 41) (L' := [some (.ref 65), some (.int (nI k)), some (.int b), some (.int n), none]) (st' := [.int n]) (h' := kv_wd g w) rfl ?_
            refine kx_bc (t := 51) rfl rfl (fun (h41 : 0 ≤ n) => ?_) (fun (h41 : ¬ (0 ≤ n)) => ?_)
            · refine kx_st 1 (pc' := 52) (L' := [some (.ref 65), some (.int (nI k)), some (.int b), some (.int n), none]) (st' := [.int b]) (h' := kv_wd g w) rfl ?_
              refine kx_bc (t := 68) rfl rfl (fun (h52 : b = 0) => ?_) (fun (h52 : ¬ (b = 0)) => ?_)
              · exfalso; rcases hb with rfl | rfl | rfl <;> exact absurd h52 (by decide)
              · refine kx_st 0 (pc' := 55) (L' := [some (.ref 65), some (.int (nI k)), some (.int b), some (.int n), none]) (st' := []) (h' := kv_wd g w) rfl ?_
                refine kx_st 2 (pc' := 58) (L' := [some (.ref 65), some (.int (nI k)), some (.int b), some (.int n), none]) (st' := [.int 40, .int n]) (h' := kv_wd g w) rfl ?_
                refine kx_bi (t := 68) rfl rfl (fun (h58 : n ≤ 40) => ?_) (fun (h58 : ¬ (n ≤ 40)) => ?_)
                · exact absurd h58 h40
                · refine kx_st 0 (pc' := 61) (L' := [some (.ref 65), some (.int (nI k)), some (.int b), some (.int n), none]) (st' := []) (h' := kv_wd g w) rfl ?_
                  refine kx_st 2 (pc' := 64) (L' := [some (.ref 65), some (.int (nI k)), some (.int b), some (.int n), none]) (st' := [.int (-1000000001), .ref 65]) (h' := kv_wd g w) rfl ?_
                  refine kx_call (z := 131) (as := [.ref 65, .int (-1000000001)]) (rest := []) (v := some (.int (-1000000001))) (h1 := kv_wd (kv_up g 70 1 (g 70 1 + 1)) w) rfl (ev_errs (d := d + 1) (-1000000001) 1 (by decide) (by decide)) ?_
                  refine kx_st 0 (pc' := 67) (L' := [some (.ref 65), some (.int (nI k)), some (.int b), some (.int n), none]) (st' := [.int (-1000000001)]) (h' := kv_wd (kv_up g 70 1 (g 70 1 + 1)) w) rfl ?_
                  refine kx_ret (v := some (.int (-1000000001))) rfl ?_
                  exact ⟨rfl, rfl⟩
            · exact absurd (Int32.not_lt.mp hn) h41
        · refine kx_st 0 (pc' := 23) (L' := [some (.ref 65), some (.int (nI k)), some (.int b), some (.int n), none]) (st' := []) (h' := kv_wd g w) rfl ?_
          refine kx_st 2 (pc' := 26) (L' := [some (.ref 65), some (.int (nI k)), some (.int b), some (.int n), none]) (st' := [.int 32, .int b]) (h' := kv_wd g w) rfl ?_
          refine kx_bi (t := 36) rfl rfl (fun (h26 : b = 32) => ?_) (fun (h26 : ¬ (b = 32)) => ?_)
          · refine kx_st 1 (pc' := 37) (L' := [some (.ref 65), some (.int (nI k)), some (.int b), some (.int n), none]) (st' := [.int b]) (h' := kv_wd g w) rfl ?_
            refine kx_bc (t := 51) rfl rfl (fun (h37 : b = 0) => ?_) (fun (h37 : ¬ (b = 0)) => ?_)
            · exfalso; rcases hb with rfl | rfl | rfl <;> exact absurd h37 (by decide)
            · refine kx_st 0 (pc' := 40) (L' := [some (.ref 65), some (.int (nI k)), some (.int b), some (.int n), none]) (st' := []) (h' := kv_wd g w) rfl ?_
              refine kx_st 1 (pc' := 41) (L' := [some (.ref 65), some (.int (nI k)), some (.int b), some (.int n), none]) (st' := [.int n]) (h' := kv_wd g w) rfl ?_
              refine kx_bc (t := 51) rfl rfl (fun (h41 : 0 ≤ n) => ?_) (fun (h41 : ¬ (0 ≤ n)) => ?_)
              · refine kx_st 1 (pc' := 52) (L' := [some (.ref 65), some (.int (nI k)), some (.int b), some (.int n), none]) (st' := [.int b]) (h' := kv_wd g w) rfl ?_
                refine kx_bc (t := 68) rfl rfl (fun (h52 : b = 0) => ?_) (fun (h52 : ¬ (b = 0)) => ?_)
                · exfalso; rcases hb with rfl | rfl | rfl <;> exact absurd h52 (by decide)
                · refine kx_st 0 (pc' := 55) (L' := [some (.ref 65), some (.int (nI k)), some (.int b), some (.int n), none]) (st' := []) (h' := kv_wd g w) rfl ?_
                  refine kx_st 2 (pc' := 58) (L' := [some (.ref 65), some (.int (nI k)), some (.int b), some (.int n), none]) (st' := [.int 40, .int n]) (h' := kv_wd g w) rfl ?_
                  refine kx_bi (t := 68) rfl rfl (fun (h58 : n ≤ 40) => ?_) (fun (h58 : ¬ (n ≤ 40)) => ?_)
                  · exact absurd h58 h40
                  · refine kx_st 0 (pc' := 61) (L' := [some (.ref 65), some (.int (nI k)), some (.int b), some (.int n), none]) (st' := []) (h' := kv_wd g w) rfl ?_
                    refine kx_st 2 (pc' := 64) (L' := [some (.ref 65), some (.int (nI k)), some (.int b), some (.int n), none]) (st' := [.int (-1000000001), .ref 65]) (h' := kv_wd g w) rfl ?_
                    refine kx_call (z := 131) (as := [.ref 65, .int (-1000000001)]) (rest := []) (v := some (.int (-1000000001))) (h1 := kv_wd (kv_up g 70 1 (g 70 1 + 1)) w) rfl (ev_errs (d := d + 1) (-1000000001) 1 (by decide) (by decide)) ?_
                    refine kx_st 0 (pc' := 67) (L' := [some (.ref 65), some (.int (nI k)), some (.int b), some (.int n), none]) (st' := [.int (-1000000001)]) (h' := kv_wd (kv_up g 70 1 (g 70 1 + 1)) w) rfl ?_
                    refine kx_ret (v := some (.int (-1000000001))) rfl ?_
                    exact ⟨rfl, rfl⟩
              · exact absurd (Int32.not_lt.mp hn) h41
          · exfalso; rcases hb with rfl | rfl | rfl <;> contradiction
set_option maxRecDepth 100000 in
theorem ev_m_sheet_n {E : kv_V} {d : Nat} {g : kv_S} {w : kv_W} (z b n : Int32) (hv : ¬ (0 ≤ z ∧ z ≤ 3)) : kv_ev E (d + 3) 211 [.ref 65, .int z, .int b, .int n] (kv_wd g w) (some (.int (-1000000001))) (kv_wd (kv_up g 70 1 (g 70 1 + 1)) w) := by
  refine kx_ev (d := d + 2) (by decide) (Nat.le_of_ble_eq_true rfl) ?_
  refine kx_st 0 (pc' := 0) (L' := [some (.ref 65), some (.int z), some (.int b), some (.int n), none]) (st' := []) (h' := kv_wd g w) rfl ?_
  refine kx_st 1 (pc' := 1) (L' := [some (.ref 65), some (.int z), some (.int b), some (.int n), none]) (st' := [.int z]) (h' := kv_wd g w) rfl ?_
  refine kx_call (z := 200) (as := [.int z]) (rest := []) (v := some (.int (kx_b (0 ≤ z ∧ z ≤ 3)))) (h1 := kv_wd g w) rfl (ev_isSheet (d := d) z) ?_
  refine kx_st 0 (pc' := 4) (L' := [some (.ref 65), some (.int z), some (.int b), some (.int n), none]) (st' := [.int (kx_b (0 ≤ z ∧ z ≤ 3))]) (h' := kv_wd g w) rfl ?_
  refine kx_be (t := 29) rfl rfl (fun (h4 : ¬ (0 ≤ z ∧ z ≤ 3)) => ?_) (fun (h4 : (0 ≤ z ∧ z ≤ 3)) => ?_)
  · refine kx_st 2 (pc' := 32) (L' := [some (.ref 65), some (.int z), some (.int b), some (.int n), none]) (st' := [.int (-1000000001), .ref 65]) (h' := kv_wd g w) rfl ?_
    refine kx_call (z := 131) (as := [.ref 65, .int (-1000000001)]) (rest := []) (v := some (.int (-1000000001))) (h1 := kv_wd (kv_up g 70 1 (g 70 1 + 1)) w) rfl (ev_errs (d := d + 1) (-1000000001) 1 (by decide) (by decide)) ?_
    refine kx_st 0 (pc' := 35) (L' := [some (.ref 65), some (.int z), some (.int b), some (.int n), none]) (st' := [.int (-1000000001)]) (h' := kv_wd (kv_up g 70 1 (g 70 1 + 1)) w) rfl ?_
    refine kx_ret (v := some (.int (-1000000001))) rfl ?_
    exact ⟨rfl, rfl⟩
  · exact absurd h4 hv
set_option maxRecDepth 100000 in
theorem ev_m_sheet_k {E : kv_V} {d : Nat} {g : kv_S} {w : kv_W} (k : Nat) (hk : k < 4) (b n : Int32) (hb : ¬ b = 0 ∧ ¬ b = 8 ∧ ¬ b = 16 ∧ ¬ b = 32) : kv_ev E (d + 3) 211 [.ref 65, .int (nI k), .int b, .int n] (kv_wd g w) (some (.int (-1000000001))) (kv_wd (kv_up g 70 1 (g 70 1 + 1)) w) := by
  refine kx_ev (d := d + 2) (by decide) (Nat.le_of_ble_eq_true rfl) ?_
  refine kx_st 0 (pc' := 0) (L' := [some (.ref 65), some (.int (nI k)), some (.int b), some (.int n), none]) (st' := []) (h' := kv_wd g w) rfl ?_
  refine kx_st 1 (pc' := 1) (L' := [some (.ref 65), some (.int (nI k)), some (.int b), some (.int n), none]) (st' := [.int (nI k)]) (h' := kv_wd g w) rfl ?_
  refine kx_call (z := 200) (as := [.int (nI k)]) (rest := []) (v := some (.int (kx_b (0 ≤ nI k ∧ nI k ≤ 3)))) (h1 := kv_wd g w) rfl (ev_isSheet (d := d) (nI k)) ?_
  refine kx_st 0 (pc' := 4) (L' := [some (.ref 65), some (.int (nI k)), some (.int b), some (.int n), none]) (st' := [.int (kx_b (0 ≤ nI k ∧ nI k ≤ 3))]) (h' := kv_wd g w) rfl ?_
  refine kx_be (t := 29) rfl rfl (fun (h4 : ¬ (0 ≤ nI k ∧ nI k ≤ 3)) => ?_) (fun (h4 : (0 ≤ nI k ∧ nI k ≤ 3)) => ?_)
  · exact absurd (by rw [show (0 : Int32) = nI 0 from rfl]; exact ⟨nI_le (by omega) (by omega), nI_le (a := k) (b := 3) (by omega) (by omega)⟩) h4
  · refine kx_st 0 (pc' := 7) (L' := [some (.ref 65), some (.int (nI k)), some (.int b), some (.int n), none]) (st' := []) (h' := kv_wd g w) rfl ?_
    refine kx_st 1 (pc' := 8) (L' := [some (.ref 65), some (.int (nI k)), some (.int b), some (.int n), none]) (st' := [.int b]) (h' := kv_wd g w) rfl ?_
    refine kx_bc (t := 36) rfl rfl (fun (h8 : b = 0) => ?_) (fun (h8 : ¬ (b = 0)) => ?_)
    · exact absurd h8 hb.1
    · refine kx_st 0 (pc' := 11) (L' := [some (.ref 65), some (.int (nI k)), some (.int b), some (.int n), none]) (st' := []) (h' := kv_wd g w) rfl ?_
      refine kx_st 2 (pc' := 14) (L' := [some (.ref 65), some (.int (nI k)), some (.int b), some (.int n), none]) (st' := [.int 8, .int b]) (h' := kv_wd g w) rfl ?_
      refine kx_bi (t := 36) rfl rfl (fun (h14 : b = 8) => ?_) (fun (h14 : ¬ (b = 8)) => ?_)
      · exact absurd h14 hb.2.1
      · refine kx_st 0 (pc' := 17) (L' := [some (.ref 65), some (.int (nI k)), some (.int b), some (.int n), none]) (st' := []) (h' := kv_wd g w) rfl ?_
        refine kx_st 2 (pc' := 20) (L' := [some (.ref 65), some (.int (nI k)), some (.int b), some (.int n), none]) (st' := [.int 16, .int b]) (h' := kv_wd g w) rfl ?_
        refine kx_bi (t := 36) rfl rfl (fun (h20 : b = 16) => ?_) (fun (h20 : ¬ (b = 16)) => ?_)
        · exact absurd h20 hb.2.2.1
        · refine kx_st 0 (pc' := 23) (L' := [some (.ref 65), some (.int (nI k)), some (.int b), some (.int n), none]) (st' := []) (h' := kv_wd g w) rfl ?_
          refine kx_st 2 (pc' := 26) (L' := [some (.ref 65), some (.int (nI k)), some (.int b), some (.int n), none]) (st' := [.int 32, .int b]) (h' := kv_wd g w) rfl ?_
          refine kx_bi (t := 36) rfl rfl (fun (h26 : b = 32) => ?_) (fun (h26 : ¬ (b = 32)) => ?_)
          · exact absurd h26 hb.2.2.2
          · refine kx_st 0 (pc' := 29) (L' := [some (.ref 65), some (.int (nI k)), some (.int b), some (.int n), none]) (st' := []) (h' := kv_wd g w) rfl ?_
            refine kx_st 2 (pc' := 32) (L' := [some (.ref 65), some (.int (nI k)), some (.int b), some (.int n), none]) (st' := [.int (-1000000001), .ref 65]) (h' := kv_wd g w) rfl ?_
            refine kx_call (z := 131) (as := [.ref 65, .int (-1000000001)]) (rest := []) (v := some (.int (-1000000001))) (h1 := kv_wd (kv_up g 70 1 (g 70 1 + 1)) w) rfl (ev_errs (d := d + 1) (-1000000001) 1 (by decide) (by decide)) ?_
            refine kx_st 0 (pc' := 35) (L' := [some (.ref 65), some (.int (nI k)), some (.int b), some (.int n), none]) (st' := [.int (-1000000001)]) (h' := kv_wd (kv_up g 70 1 (g 70 1 + 1)) w) rfl ?_
            refine kx_ret (v := some (.int (-1000000001))) rfl ?_
            exact ⟨rfl, rfl⟩
