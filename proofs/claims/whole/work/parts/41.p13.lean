/-! PAIRS: ofKnot, change, as -/
/-- one fact of one knot becomes another -/
theorem kx_Rl_knot {lr : kx_LR} {g : kv_S} {w : kv_W} {i k c m : Nat} {v : Int32} (hR : kx_Rl lr g w i) (hm : g 66 2 = nI m) (m8 : m ≤ 8) (hkm : k < m) (hc : c < 9) (h0 : c = 0 → ∃ x, x ≤ 6 ∧ v = nI x) (h1 : c = 1 → ∃ x, x ≤ 9 ∧ v = nI x) (h2 : c ≠ 2 ∧ c ≠ 3 ∧ c ≠ 6) (h4 : c = 4 → ∃ x, x ≤ 198 ∧ v = nI x) (h5 : c = 5 → ∃ x, x ≤ 999 ∧ v = nI x) (h7 : c = 7 → v = 0 ∨ v = 1) (h8 : c = 8 → ∃ x, x ≤ 99 ∧ v = nI x) : kx_Rl lr (kv_up (kv_up g (14 + k) c v) 66 (26 + 9 * k + c) v) w (i + 1) := by
  obtain ⟨q, cu, ⟨H1, H2, H3, H4, H5, hz, l0, l1⟩, im, sh, tr, er⟩ := id hR
  have g66 : kv_up (kv_up g (14 + k) c v) 66 (26 + 9 * k + c) v 66 = upd (g 66) (26 + 9 * k + c) v := by rw [kv_up_at, kv_up_ne (by omega)]
  have gb : ∀ b, (b < 14 ∨ 22 ≤ b) → b ≠ 66 → kv_up (kv_up g (14 + k) c v) 66 (26 + 9 * k + c) v b = g b := fun b hb hb2 => by rw [kv_up_ne hb2, kv_up_ne (by omega)]
  have en : ∀ j, j ≠ 26 + 9 * k + c → upd (g 66) (26 + 9 * k + c) v j = g 66 j := fun j hj => kx_upn hj
  have kn : ∀ i c', i < 8 → kx_kn (kv_up (kv_up g (14 + k) c v) 66 (26 + 9 * k + c) v) i c' = if i = k ∧ c' = c then v else kx_kn g i c' := fun i c' hi => by
    rw [kx_kn_at hi, kx_kn_at hi, kv_up_ne (by omega)]
    by_cases hik : i = k
    · subst hik
      rw [kv_up_at]
      unfold upd
      by_cases hcc : c' = c
      · rw [if_pos hcc, if_pos ⟨rfl, hcc⟩]
      · rw [if_neg hcc, if_neg (fun z => hcc z.2)]
    · rw [kv_up_ne (by omega), if_neg (fun z => hik z.1)]
  have ei : ∀ i c', i < 8 → c' < 9 → upd (g 66) (26 + 9 * k + c) v (26 + 9 * i + c') = if i = k ∧ c' = c then v else g 66 (26 + 9 * i + c') := fun i c' hi hc' => by
    by_cases h : i = k ∧ c' = c
    · rw [if_pos h, h.1, h.2, kx_ups]
    · rw [if_neg h, kx_upn (by omega)]
  obtain ⟨s, t, m', ⟨a1, a2, a3, a4⟩, ⟨b1, b2⟩, ⟨c1, c2⟩, ⟨d1, d2⟩, hk⟩ := id H1
  have em : m' = m := kx_nI_inj (by omega) (by omega) (d2.symm.trans hm)
  subst em
  refine kx_Rl_hn hR q (fun b hb hb2 => gb b (by omega) (by omega)) (fun z hz => by rw [gb 65 (by omega) (by omega)]) ⟨by rw [gb 6 (by omega) (by omega)], by rw [gb 9 (by omega) (by omega)]⟩ (kx_hn_mk ⟨H1, H2, H3, H4, H5, hz, l0, l1⟩ ?_ ?_ ?_ ?_ ?_ ?_ ?_ ?_)
  · rw [gb 1 (by omega) (by omega), g66]
    refine ⟨s, t, m', ⟨a1, a2, a3, a4⟩, ⟨b1, (en 3 (by omega)).trans b2⟩, ⟨c1, fun p hp => (en _ (by omega)).trans (c2 p hp)⟩, ⟨d1, (en 2 (by omega)).trans d2⟩, fun j hj => ?_⟩
    obtain ⟨q1, q2, q3, q4, q5, q6, q7, q8, q9⟩ := hk j hj
    dsimp only at q1 q2 q3 q4 q5 q6 q7 q8 q9
    refine ⟨fun c' hc' => ?_, ?_, ?_, ?_, ?_, ?_, ?_, ?_, ?_⟩ <;> dsimp only
    · rw [kn j c' (by omega), ei j c' (by omega) hc']
      by_cases h : j = k ∧ c' = c
      · rw [if_pos h, if_pos h]
      · rw [if_neg h, if_neg h]; exact q1 c' hc'
    · rw [ei j 0 (by omega) (by omega)]
      by_cases h : j = k ∧ 0 = c
      · rw [if_pos h]; exact h0 h.2.symm
      · rw [if_neg h]; exact q2
    · rw [ei j 1 (by omega) (by omega)]
      by_cases h : j = k ∧ 1 = c
      · rw [if_pos h]; exact h1 h.2.symm
      · rw [if_neg h]; exact q3
    · rw [ei j 2 (by omega) (by omega), if_neg (fun z => h2.1 z.2.symm), ei j 3 (by omega) (by omega), if_neg (fun z => h2.2.1 z.2.symm)]; exact q4
    · rw [ei j 4 (by omega) (by omega)]
      by_cases h : j = k ∧ 4 = c
      · rw [if_pos h]; exact h4 h.2.symm
      · rw [if_neg h]; exact q5
    · rw [ei j 5 (by omega) (by omega)]
      by_cases h : j = k ∧ 5 = c
      · rw [if_pos h]; exact h5 h.2.symm
      · rw [if_neg h]; exact q6
    · rw [ei j 6 (by omega) (by omega), if_neg (fun z => h2.2.2 z.2.symm)]; exact q7
    · rw [ei j 7 (by omega) (by omega)]
      by_cases h : j = k ∧ 7 = c
      · rw [if_pos h]; exact h7 h.2.symm
      · rw [if_neg h]; exact q8
    · rw [ei j 8 (by omega) (by omega)]
      by_cases h : j = k ∧ 8 = c
      · rw [if_pos h]; exact h8 h.2.symm
      · rw [if_neg h]; exact q9
  · rw [gb 3 (by omega) (by omega), gb 4 (by omega) (by omega), g66]; exact kx_H2_cg (fun _ _ => rfl) (fun _ _ => rfl) (fun j hj => en j (by omega)) H2
  · rw [gb 2 (by omega) (by omega), g66]; exact kx_H3_cg rfl (en 0 (by omega)) H3
  · rw [gb 1 (by omega) (by omega), gb 12 (by omega) (by omega), g66]; exact kx_H4_cg rfl (fun _ _ => rfl) (fun j hj => en j (by omega)) H4
  · rw [gb 1 (by omega) (by omega), gb 13 (by omega) (by omega), g66]; exact kx_H5_cg rfl (fun _ _ => rfl) (fun j hj => en j (by omega)) H5
  · rw [gb 1 (by omega) (by omega), g66]; exact hz.trans (en 1 (by omega)).symm
  · exact ⟨by rw [gb 6 (by omega) (by omega)], gb 7 (by omega) (by omega), by rw [gb 9 (by omega) (by omega)], gb 10 (by omega) (by omega)⟩
  · intro j hj; rw [g66]; exact en j (by omega)
set_option maxRecDepth 100000 in
theorem ev_fact_0 {E : kv_V} {d : Nat} {g : kv_S} {w : kv_W} (k : Nat) (hk : k < 8) : kv_ev E (d + 1) 30 [.ref (14 + k), .int 0] (kv_wd g w) (some (.int (g (14 + k) 0))) (kv_wd g w) := by
  refine kx_ev (d := d + 0) (by decide) (Nat.le_of_ble_eq_true rfl) ?_
  refine kx_st 0 (pc' := 0) (L' := [some (.ref (14 + k)), some (.int 0)]) (st' := []) (h' := kv_wd g w) rfl ?_
  refine kx_st 3 (pc' := 49) (L' := [some (.ref (14 + k)), some (.int 0)]) (st' := [.ref (14 + k)]) (h' := kv_wd g w) rfl ?_
  refine kx_gf (i := 7) (k := 0) (v := .int (g (14 + k) 0)) rfl rfl (kv_kn_h hk).1 ((kv_kn_h hk).2 _ _) rfl ?_
  refine kx_ret (v := some (.int (g (14 + k) 0))) rfl ?_
  exact ⟨rfl, rfl⟩
set_option maxRecDepth 100000 in
theorem ev_fact_1 {E : kv_V} {d : Nat} {g : kv_S} {w : kv_W} (k : Nat) (hk : k < 8) : kv_ev E (d + 1) 30 [.ref (14 + k), .int 1] (kv_wd g w) (some (.int (g (14 + k) 1))) (kv_wd g w) := by
  refine kx_ev (d := d + 0) (by decide) (Nat.le_of_ble_eq_true rfl) ?_
  refine kx_st 0 (pc' := 0) (L' := [some (.ref (14 + k)), some (.int 1)]) (st' := []) (h' := kv_wd g w) rfl ?_
  refine kx_st 3 (pc' := 54) (L' := [some (.ref (14 + k)), some (.int 1)]) (st' := [.ref (14 + k)]) (h' := kv_wd g w) rfl ?_
  refine kx_gf (i := 13) (k := 1) (v := .int (g (14 + k) 1)) rfl rfl (kv_kn_h hk).1 ((kv_kn_h hk).2 _ _) rfl ?_
  refine kx_ret (v := some (.int (g (14 + k) 1))) rfl ?_
  exact ⟨rfl, rfl⟩
set_option maxRecDepth 100000 in
theorem ev_fact_2 {E : kv_V} {d : Nat} {g : kv_S} {w : kv_W} (k : Nat) (hk : k < 8) : kv_ev E (d + 1) 30 [.ref (14 + k), .int 2] (kv_wd g w) (some (.int (g (14 + k) 2))) (kv_wd g w) := by
  refine kx_ev (d := d + 0) (by decide) (Nat.le_of_ble_eq_true rfl) ?_
  refine kx_st 0 (pc' := 0) (L' := [some (.ref (14 + k)), some (.int 2)]) (st' := []) (h' := kv_wd g w) rfl ?_
  refine kx_st 3 (pc' := 59) (L' := [some (.ref (14 + k)), some (.int 2)]) (st' := [.ref (14 + k)]) (h' := kv_wd g w) rfl ?_
  refine kx_gf (i := 16) (k := 2) (v := .int (g (14 + k) 2)) rfl rfl (kv_kn_h hk).1 ((kv_kn_h hk).2 _ _) rfl ?_
  refine kx_ret (v := some (.int (g (14 + k) 2))) rfl ?_
  exact ⟨rfl, rfl⟩
set_option maxRecDepth 100000 in
theorem ev_fact_3 {E : kv_V} {d : Nat} {g : kv_S} {w : kv_W} (k : Nat) (hk : k < 8) : kv_ev E (d + 1) 30 [.ref (14 + k), .int 3] (kv_wd g w) (some (.int (g (14 + k) 3))) (kv_wd g w) := by
  refine kx_ev (d := d + 0) (by decide) (Nat.le_of_ble_eq_true rfl) ?_
  refine kx_st 0 (pc' := 0) (L' := [some (.ref (14 + k)), some (.int 3)]) (st' := []) (h' := kv_wd g w) rfl ?_
  refine kx_st 3 (pc' := 64) (L' := [some (.ref (14 + k)), some (.int 3)]) (st' := [.ref (14 + k)]) (h' := kv_wd g w) rfl ?_
  refine kx_gf (i := 19) (k := 3) (v := .int (g (14 + k) 3)) rfl rfl (kv_kn_h hk).1 ((kv_kn_h hk).2 _ _) rfl ?_
  refine kx_ret (v := some (.int (g (14 + k) 3))) rfl ?_
  exact ⟨rfl, rfl⟩
set_option maxRecDepth 100000 in
theorem ev_fact_4 {E : kv_V} {d : Nat} {g : kv_S} {w : kv_W} (k : Nat) (hk : k < 8) : kv_ev E (d + 1) 30 [.ref (14 + k), .int 4] (kv_wd g w) (some (.int (g (14 + k) 4))) (kv_wd g w) := by
  refine kx_ev (d := d + 0) (by decide) (Nat.le_of_ble_eq_true rfl) ?_
  refine kx_st 0 (pc' := 0) (L' := [some (.ref (14 + k)), some (.int 4)]) (st' := []) (h' := kv_wd g w) rfl ?_
  refine kx_st 3 (pc' := 69) (L' := [some (.ref (14 + k)), some (.int 4)]) (st' := [.ref (14 + k)]) (h' := kv_wd g w) rfl ?_
  refine kx_gf (i := 22) (k := 4) (v := .int (g (14 + k) 4)) rfl rfl (kv_kn_h hk).1 ((kv_kn_h hk).2 _ _) rfl ?_
  refine kx_ret (v := some (.int (g (14 + k) 4))) rfl ?_
  exact ⟨rfl, rfl⟩
set_option maxRecDepth 100000 in
theorem ev_fact_5 {E : kv_V} {d : Nat} {g : kv_S} {w : kv_W} (k : Nat) (hk : k < 8) : kv_ev E (d + 1) 30 [.ref (14 + k), .int 5] (kv_wd g w) (some (.int (g (14 + k) 5))) (kv_wd g w) := by
  refine kx_ev (d := d + 0) (by decide) (Nat.le_of_ble_eq_true rfl) ?_
  refine kx_st 0 (pc' := 0) (L' := [some (.ref (14 + k)), some (.int 5)]) (st' := []) (h' := kv_wd g w) rfl ?_
  refine kx_st 3 (pc' := 74) (L' := [some (.ref (14 + k)), some (.int 5)]) (st' := [.ref (14 + k)]) (h' := kv_wd g w) rfl ?_
  refine kx_gf (i := 25) (k := 5) (v := .int (g (14 + k) 5)) rfl rfl (kv_kn_h hk).1 ((kv_kn_h hk).2 _ _) rfl ?_
  refine kx_ret (v := some (.int (g (14 + k) 5))) rfl ?_
  exact ⟨rfl, rfl⟩
set_option maxRecDepth 100000 in
theorem ev_fact_6 {E : kv_V} {d : Nat} {g : kv_S} {w : kv_W} (k : Nat) (hk : k < 8) : kv_ev E (d + 1) 30 [.ref (14 + k), .int 6] (kv_wd g w) (some (.int (g (14 + k) 6))) (kv_wd g w) := by
  refine kx_ev (d := d + 0) (by decide) (Nat.le_of_ble_eq_true rfl) ?_
  refine kx_st 0 (pc' := 0) (L' := [some (.ref (14 + k)), some (.int 6)]) (st' := []) (h' := kv_wd g w) rfl ?_
  refine kx_st 3 (pc' := 79) (L' := [some (.ref (14 + k)), some (.int 6)]) (st' := [.ref (14 + k)]) (h' := kv_wd g w) rfl ?_
  refine kx_gf (i := 28) (k := 6) (v := .int (g (14 + k) 6)) rfl rfl (kv_kn_h hk).1 ((kv_kn_h hk).2 _ _) rfl ?_
  refine kx_ret (v := some (.int (g (14 + k) 6))) rfl ?_
  exact ⟨rfl, rfl⟩
set_option maxRecDepth 100000 in
theorem ev_fact_7 {E : kv_V} {d : Nat} {g : kv_S} {w : kv_W} (k : Nat) (hk : k < 8) (h : g (14 + k) 7 = 0 ∨ g (14 + k) 7 = 1) : kv_ev E (d + 1) 30 [.ref (14 + k), .int 7] (kv_wd g w) (some (.int (g (14 + k) 7))) (kv_wd g w) := by
  refine kx_ev (d := d + 0) (by decide) (Nat.le_of_ble_eq_true rfl) ?_
  refine kx_st 0 (pc' := 0) (L' := [some (.ref (14 + k)), some (.int 7)]) (st' := []) (h' := kv_wd g w) rfl ?_
  refine kx_st 3 (pc' := 84) (L' := [some (.ref (14 + k)), some (.int 7)]) (st' := [.ref (14 + k)]) (h' := kv_wd g w) rfl ?_
  refine kx_gf (i := 31) (k := 7) (v := .int (g (14 + k) 7)) rfl rfl (kv_kn_h hk).1 ((kv_kn_h hk).2 _ _) rfl ?_
  refine kx_bc (t := 94) rfl rfl (fun (h87 : g (14 + k) 7 = 0) => ?_) (fun (h87 : ¬ (g (14 + k) 7 = 0)) => ?_)
  · refine kx_st 1 (pc' := 95) (L' := [some (.ref (14 + k)), some (.int 7)]) (st' := [.int 0]) (h' := kv_wd g w) rfl ?_
    refine kx_ret (v := some (.int 0)) rfl ?_
    exact ⟨by rw [h87], rfl⟩
  · refine kx_st 0 (pc' := 90) (L' := [some (.ref (14 + k)), some (.int 7)]) (st' := []) (h' := kv_wd g w) rfl ?_
    refine kx_st 2 (pc' := 95) (L' := [some (.ref (14 + k)), some (.int 7)]) (st' := [.int 1]) (h' := kv_wd g w) rfl ?_
    refine kx_ret (v := some (.int 1)) rfl ?_
    exact ⟨by rw [h.resolve_left h87], rfl⟩
set_option maxRecDepth 100000 in
theorem ev_fact_8 {E : kv_V} {d : Nat} {g : kv_S} {w : kv_W} (k : Nat) (hk : k < 8) : kv_ev E (d + 1) 30 [.ref (14 + k), .int 8] (kv_wd g w) (some (.int (g (14 + k) 8))) (kv_wd g w) := by
  refine kx_ev (d := d + 0) (by decide) (Nat.le_of_ble_eq_true rfl) ?_
  refine kx_st 0 (pc' := 0) (L' := [some (.ref (14 + k)), some (.int 8)]) (st' := []) (h' := kv_wd g w) rfl ?_
  refine kx_st 3 (pc' := 97) (L' := [some (.ref (14 + k)), some (.int 8)]) (st' := [.ref (14 + k)]) (h' := kv_wd g w) rfl ?_
  refine kx_gf (i := 35) (k := 8) (v := .int (g (14 + k) 8)) rfl rfl (kv_kn_h hk).1 ((kv_kn_h hk).2 _ _) rfl ?_
  refine kx_ret (v := some (.int (g (14 + k) 8))) rfl ?_
  exact ⟨rfl, rfl⟩
set_option maxRecDepth 100000 in
theorem ev_alter_0 {E : kv_V} {d : Nat} {g : kv_S} {w : kv_W} (k : Nat) (hk : k < 8) (v : Int32) : kv_ev E (d + 1) 31 [.ref (14 + k), .int 0, .int v] (kv_wd g w) (some (.int (g (14 + k) 4))) (kv_wd (kv_up g (14 + k) 4 v) w) := by
  refine kx_ev (d := d + 0) (by decide) (Nat.le_of_ble_eq_true rfl) ?_
  refine kx_st 0 (pc' := 0) (L' := [some (.ref (14 + k)), some (.int 0), some (.int v), none]) (st' := []) (h' := kv_wd g w) rfl ?_
  refine kx_st 3 (pc' := 29) (L' := [some (.ref (14 + k)), some (.int 0), some (.int v), none]) (st' := [.ref (14 + k)]) (h' := kv_wd g w) rfl ?_
  refine kx_gf (i := 22) (k := 4) (v := .int (g (14 + k) 4)) rfl rfl (kv_kn_h hk).1 ((kv_kn_h hk).2 _ _) rfl ?_
  refine kx_st 3 (pc' := 35) (L' := [some (.ref (14 + k)), some (.int 0), some (.int v), some (.int (g (14 + k) 4))]) (st' := [.int v, .ref (14 + k)]) (h' := kv_wd g w) rfl ?_
  refine kx_pf (i := 22) (k := 4) (x := v) rfl rfl (kv_kn_h hk).1 ((kv_kn_h hk).2 _ _) (Nat.le_of_ble_eq_true rfl) (by rw [(kv_kn_h hk).2]; rfl) rfl rfl ?_
  refine kx_st 1 (pc' := 39) (L' := [some (.ref (14 + k)), some (.int 0), some (.int v), some (.int (g (14 + k) 4))]) (st' := [.int (g (14 + k) 4)]) (h' := kv_wd (kv_up g (14 + k) 4 v) w) rfl ?_
  refine kx_ret (v := some (.int (g (14 + k) 4))) rfl ?_
  exact ⟨rfl, rfl⟩
set_option maxRecDepth 100000 in
theorem ev_alter_1 {E : kv_V} {d : Nat} {g : kv_S} {w : kv_W} (k : Nat) (hk : k < 8) (v : Int32) : kv_ev E (d + 1) 31 [.ref (14 + k), .int 1, .int v] (kv_wd g w) (some (.int (g (14 + k) 5))) (kv_wd (kv_up g (14 + k) 5 v) w) := by
  refine kx_ev (d := d + 0) (by decide) (Nat.le_of_ble_eq_true rfl) ?_
  refine kx_st 0 (pc' := 0) (L' := [some (.ref (14 + k)), some (.int 1), some (.int v), none]) (st' := []) (h' := kv_wd g w) rfl ?_
  refine kx_st 3 (pc' := 41) (L' := [some (.ref (14 + k)), some (.int 1), some (.int v), none]) (st' := [.ref (14 + k)]) (h' := kv_wd g w) rfl ?_
  refine kx_gf (i := 25) (k := 5) (v := .int (g (14 + k) 5)) rfl rfl (kv_kn_h hk).1 ((kv_kn_h hk).2 _ _) rfl ?_
  refine kx_st 3 (pc' := 47) (L' := [some (.ref (14 + k)), some (.int 1), some (.int v), some (.int (g (14 + k) 5))]) (st' := [.int v, .ref (14 + k)]) (h' := kv_wd g w) rfl ?_
  refine kx_pf (i := 25) (k := 5) (x := v) rfl rfl (kv_kn_h hk).1 ((kv_kn_h hk).2 _ _) (Nat.le_of_ble_eq_true rfl) (by rw [(kv_kn_h hk).2]; rfl) rfl rfl ?_
  refine kx_st 1 (pc' := 51) (L' := [some (.ref (14 + k)), some (.int 1), some (.int v), some (.int (g (14 + k) 5))]) (st' := [.int (g (14 + k) 5)]) (h' := kv_wd (kv_up g (14 + k) 5 v) w) rfl ?_
  refine kx_ret (v := some (.int (g (14 + k) 5))) rfl ?_
  exact ⟨rfl, rfl⟩
set_option maxRecDepth 100000 in
theorem ev_alter_3 {E : kv_V} {d : Nat} {g : kv_S} {w : kv_W} (k : Nat) (hk : k < 8) (v : Int32) : kv_ev E (d + 1) 31 [.ref (14 + k), .int 3, .int v] (kv_wd g w) (some (.int (g (14 + k) 8))) (kv_wd (kv_up g (14 + k) 8 v) w) := by
  refine kx_ev (d := d + 0) (by decide) (Nat.le_of_ble_eq_true rfl) ?_
  refine kx_st 0 (pc' := 0) (L' := [some (.ref (14 + k)), some (.int 3), some (.int v), none]) (st' := []) (h' := kv_wd g w) rfl ?_
  refine kx_st 3 (pc' := 82) (L' := [some (.ref (14 + k)), some (.int 3), some (.int v), none]) (st' := [.ref (14 + k)]) (h' := kv_wd g w) rfl ?_
  refine kx_gf (i := 35) (k := 8) (v := .int (g (14 + k) 8)) rfl rfl (kv_kn_h hk).1 ((kv_kn_h hk).2 _ _) rfl ?_
  refine kx_st 3 (pc' := 88) (L' := [some (.ref (14 + k)), some (.int 3), some (.int v), some (.int (g (14 + k) 8))]) (st' := [.int v, .ref (14 + k)]) (h' := kv_wd g w) rfl ?_
  refine kx_pf (i := 35) (k := 8) (x := v) rfl rfl (kv_kn_h hk).1 ((kv_kn_h hk).2 _ _) (Nat.le_of_ble_eq_true rfl) (by rw [(kv_kn_h hk).2]; rfl) rfl rfl ?_
  refine kx_st 1 (pc' := 92) (L' := [some (.ref (14 + k)), some (.int 3), some (.int v), some (.int (g (14 + k) 8))]) (st' := [.int (g (14 + k) 8)]) (h' := kv_wd (kv_up g (14 + k) 8 v) w) rfl ?_
  refine kx_ret (v := some (.int (g (14 + k) 8))) rfl ?_
  exact ⟨rfl, rfl⟩
set_option maxRecDepth 100000 in
theorem ev_alter_2_0 {E : kv_V} {d : Nat} {g : kv_S} {w : kv_W} (k : Nat) (hk : k < 8) (h : g (14 + k) 7 = 0 ∨ g (14 + k) 7 = 1) : kv_ev E (d + 1) 31 [.ref (14 + k), .int 2, .int 0] (kv_wd g w) (some (.int (g (14 + k) 7))) (kv_wd (kv_up g (14 + k) 7 0) w) := by
  refine kx_ev (d := d + 0) (by decide) (Nat.le_of_ble_eq_true rfl) ?_
  refine kx_st 0 (pc' := 0) (L' := [some (.ref (14 + k)), some (.int 2), some (.int 0), none]) (st' := []) (h' := kv_wd g w) rfl ?_
  refine kx_st 3 (pc' := 53) (L' := [some (.ref (14 + k)), some (.int 2), some (.int 0), none]) (st' := [.ref (14 + k)]) (h' := kv_wd g w) rfl ?_
  refine kx_gf (i := 31) (k := 7) (v := .int (g (14 + k) 7)) rfl rfl (kv_kn_h hk).1 ((kv_kn_h hk).2 _ _) rfl ?_
  refine kx_bc (t := 63) rfl rfl (fun (h56 : g (14 + k) 7 = 0) => ?_) (fun (h56 : ¬ (g (14 + k) 7 = 0)) => ?_)
  · refine kx_st 5 (pc' := 68) (L' := [some (.ref (14 + k)), some (.int 2), some (.int 0), some (.int 0)]) (st' := [.int 1, .int 0, .ref (14 + k)]) (h' := kv_wd g w) rfl ?_
    refine kx_st 1 (pc' := 75) (L' := [some (.ref (14 + k)), some (.int 2), some (.int 0), some (.int 0)]) (st' := [.ref (14 + k)]) (h' := kv_wd g w) rfl ?_
    refine kx_st 1 (pc' := 76) (L' := [some (.ref (14 + k)), some (.int 2), some (.int 0), some (.int 0)]) (st' := [.int 0, .ref (14 + k)]) (h' := kv_wd g w) rfl ?_
    refine kx_pf (i := 31) (k := 7) (x := 0) rfl rfl (kv_kn_h hk).1 ((kv_kn_h hk).2 _ _) (Nat.le_of_ble_eq_true rfl) (by rw [(kv_kn_h hk).2]; rfl) rfl rfl ?_
    refine kx_st 1 (pc' := 80) (L' := [some (.ref (14 + k)), some (.int 2), some (.int 0), some (.int 0)]) (st' := [.int 0]) (h' := kv_wd (kv_up g (14 + k) 7 0) w) rfl ?_
    refine kx_ret (v := some (.int 0)) rfl ?_
    exact ⟨by rw [h56], rfl⟩
  · refine kx_st 0 (pc' := 59) (L' := [some (.ref (14 + k)), some (.int 2), some (.int 0), none]) (st' := []) (h' := kv_wd g w) rfl ?_
    refine kx_st 6 (pc' := 68) (L' := [some (.ref (14 + k)), some (.int 2), some (.int 0), some (.int 1)]) (st' := [.int 1, .int 0, .ref (14 + k)]) (h' := kv_wd g w) rfl ?_
    refine kx_st 1 (pc' := 75) (L' := [some (.ref (14 + k)), some (.int 2), some (.int 0), some (.int 1)]) (st' := [.ref (14 + k)]) (h' := kv_wd g w) rfl ?_
    refine kx_st 1 (pc' := 76) (L' := [some (.ref (14 + k)), some (.int 2), some (.int 0), some (.int 1)]) (st' := [.int 0, .ref (14 + k)]) (h' := kv_wd g w) rfl ?_
    refine kx_pf (i := 31) (k := 7) (x := 0) rfl rfl (kv_kn_h hk).1 ((kv_kn_h hk).2 _ _) (Nat.le_of_ble_eq_true rfl) (by rw [(kv_kn_h hk).2]; rfl) rfl rfl ?_
    refine kx_st 1 (pc' := 80) (L' := [some (.ref (14 + k)), some (.int 2), some (.int 0), some (.int 1)]) (st' := [.int 1]) (h' := kv_wd (kv_up g (14 + k) 7 0) w) rfl ?_
    refine kx_ret (v := some (.int 1)) rfl ?_
    exact ⟨by rw [h.resolve_left h56], rfl⟩
set_option maxRecDepth 100000 in
theorem ev_alter_2_1 {E : kv_V} {d : Nat} {g : kv_S} {w : kv_W} (k : Nat) (hk : k < 8) (h : g (14 + k) 7 = 0 ∨ g (14 + k) 7 = 1) : kv_ev E (d + 1) 31 [.ref (14 + k), .int 2, .int 1] (kv_wd g w) (some (.int (g (14 + k) 7))) (kv_wd (kv_up g (14 + k) 7 1) w) := by
  refine kx_ev (d := d + 0) (by decide) (Nat.le_of_ble_eq_true rfl) ?_
  refine kx_st 0 (pc' := 0) (L' := [some (.ref (14 + k)), some (.int 2), some (.int 1), none]) (st' := []) (h' := kv_wd g w) rfl ?_
  refine kx_st 3 (pc' := 53) (L' := [some (.ref (14 + k)), some (.int 2), some (.int 1), none]) (st' := [.ref (14 + k)]) (h' := kv_wd g w) rfl ?_
  refine kx_gf (i := 31) (k := 7) (v := .int (g (14 + k) 7)) rfl rfl (kv_kn_h hk).1 ((kv_kn_h hk).2 _ _) rfl ?_
  refine kx_bc (t := 63) rfl rfl (fun (h56 : g (14 + k) 7 = 0) => ?_) (fun (h56 : ¬ (g (14 + k) 7 = 0)) => ?_)
  · refine kx_st 5 (pc' := 68) (L' := [some (.ref (14 + k)), some (.int 2), some (.int 1), some (.int 0)]) (st' := [.int 1, .int 1, .ref (14 + k)]) (h' := kv_wd g w) rfl ?_
    refine kx_st 1 (pc' := 71) (L' := [some (.ref (14 + k)), some (.int 2), some (.int 1), some (.int 0)]) (st' := [.ref (14 + k)]) (h' := kv_wd g w) rfl ?_
    refine kx_st 2 (pc' := 76) (L' := [some (.ref (14 + k)), some (.int 2), some (.int 1), some (.int 0)]) (st' := [.int 1, .ref (14 + k)]) (h' := kv_wd g w) rfl ?_
    refine kx_pf (i := 31) (k := 7) (x := 1) rfl rfl (kv_kn_h hk).1 ((kv_kn_h hk).2 _ _) (Nat.le_of_ble_eq_true rfl) (by rw [(kv_kn_h hk).2]; rfl) rfl rfl ?_
    refine kx_st 1 (pc' := 80) (L' := [some (.ref (14 + k)), some (.int 2), some (.int 1), some (.int 0)]) (st' := [.int 0]) (h' := kv_wd (kv_up g (14 + k) 7 1) w) rfl ?_
    refine kx_ret (v := some (.int 0)) rfl ?_
    exact ⟨by rw [h56], rfl⟩
  · refine kx_st 0 (pc' := 59) (L' := [some (.ref (14 + k)), some (.int 2), some (.int 1), none]) (st' := []) (h' := kv_wd g w) rfl ?_
    refine kx_st 6 (pc' := 68) (L' := [some (.ref (14 + k)), some (.int 2), some (.int 1), some (.int 1)]) (st' := [.int 1, .int 1, .ref (14 + k)]) (h' := kv_wd g w) rfl ?_
    refine kx_st 1 (pc' := 71) (L' := [some (.ref (14 + k)), some (.int 2), some (.int 1), some (.int 1)]) (st' := [.ref (14 + k)]) (h' := kv_wd g w) rfl ?_
    refine kx_st 2 (pc' := 76) (L' := [some (.ref (14 + k)), some (.int 2), some (.int 1), some (.int 1)]) (st' := [.int 1, .ref (14 + k)]) (h' := kv_wd g w) rfl ?_
    refine kx_pf (i := 31) (k := 7) (x := 1) rfl rfl (kv_kn_h hk).1 ((kv_kn_h hk).2 _ _) (Nat.le_of_ble_eq_true rfl) (by rw [(kv_kn_h hk).2]; rfl) rfl rfl ?_
    refine kx_st 1 (pc' := 80) (L' := [some (.ref (14 + k)), some (.int 2), some (.int 1), some (.int 1)]) (st' := [.int 1]) (h' := kv_wd (kv_up g (14 + k) 7 1) w) rfl ?_
    refine kx_ret (v := some (.int 1)) rfl ?_
    exact ⟨by rw [h.resolve_left h56], rfl⟩
set_option maxRecDepth 100000 in
theorem ev_moc_0 {E : kv_V} {d : Nat} {g : kv_S} {w : kv_W}  : kv_ev E (d + 1) 125 [.int 0] (kv_wd g w) (some (.int 198)) (kv_wd g w) := by
  refine kx_ev (d := d + 0) (by decide) (Nat.le_of_ble_eq_true rfl) ?_
  refine kx_st 0 (pc' := 0) (L' := [some (.int 0)]) (st' := []) (h' := kv_wd g w) rfl ?_
  refine kx_st 3 (pc' := 31) (L' := [some (.int 0)]) (st' := [.int 198]) (h' := kv_wd g w) rfl ?_
  refine kx_ret (v := some (.int 198)) rfl ?_
  exact ⟨rfl, rfl⟩
set_option maxRecDepth 100000 in
theorem ev_moc_1 {E : kv_V} {d : Nat} {g : kv_S} {w : kv_W}  : kv_ev E (d + 1) 125 [.int 1] (kv_wd g w) (some (.int 999)) (kv_wd g w) := by
  refine kx_ev (d := d + 0) (by decide) (Nat.le_of_ble_eq_true rfl) ?_
  refine kx_st 0 (pc' := 0) (L' := [some (.int 1)]) (st' := []) (h' := kv_wd g w) rfl ?_
  refine kx_st 3 (pc' := 35) (L' := [some (.int 1)]) (st' := [.int 999]) (h' := kv_wd g w) rfl ?_
  refine kx_ret (v := some (.int 999)) rfl ?_
  exact ⟨rfl, rfl⟩
set_option maxRecDepth 100000 in
theorem ev_moc_2 {E : kv_V} {d : Nat} {g : kv_S} {w : kv_W}  : kv_ev E (d + 1) 125 [.int 2] (kv_wd g w) (some (.int 1)) (kv_wd g w) := by
  refine kx_ev (d := d + 0) (by decide) (Nat.le_of_ble_eq_true rfl) ?_
  refine kx_st 0 (pc' := 0) (L' := [some (.int 2)]) (st' := []) (h' := kv_wd g w) rfl ?_
  refine kx_st 3 (pc' := 37) (L' := [some (.int 2)]) (st' := [.int 1]) (h' := kv_wd g w) rfl ?_
  refine kx_ret (v := some (.int 1)) rfl ?_
  exact ⟨rfl, rfl⟩
set_option maxRecDepth 100000 in
theorem ev_moc_3 {E : kv_V} {d : Nat} {g : kv_S} {w : kv_W}  : kv_ev E (d + 1) 125 [.int 3] (kv_wd g w) (some (.int 99)) (kv_wd g w) := by
  refine kx_ev (d := d + 0) (by decide) (Nat.le_of_ble_eq_true rfl) ?_
  refine kx_st 0 (pc' := 0) (L' := [some (.int 3)]) (st' := []) (h' := kv_wd g w) rfl ?_
  refine kx_st 3 (pc' := 40) (L' := [some (.int 3)]) (st' := [.int 99]) (h' := kv_wd g w) rfl ?_
  refine kx_ret (v := some (.int 99)) rfl ?_
  exact ⟨rfl, rfl⟩
section KP13
variable {E : kv_V} {lr : kx_LR}
set_option maxRecDepth 100000 in
theorem pr_ofKnot (a b : Int32) : kx_ok2 E (kx_Rl lr) 86 150 [.int a, .int b] := by
  intro g w i hR hi
  have hR0 := hR
  obtain ⟨q, cu, ⟨H1, H2, H3, H4, H5, hz, l0, l1⟩, im, sh, tr, er⟩ := id hR
  obtain ⟨s, t, m, ⟨a1, a2, a3, a4⟩, ⟨b1, b2⟩, ⟨c1, c2⟩, ⟨d1, d2⟩, hk⟩ := id H1
  by_cases hv : 0 ≤ a ∧ a < nI m
  · obtain ⟨k, hkm, rfl⟩ := kx_nIlt hv.1 hv.2 (by omega)
    have hk8 : k < 8 := by omega
    have hkn : nI k < g 1 4 := by rw [d1]; exact nI_lt hkm (by omega)
    have kf : ∀ c, c < 9 → g (14 + k) c = g 66 (26 + 9 * k + c) := fun c hc => kx_knf (lr := lr) hk a4 hkm hc
    obtain ⟨-, q2, q3, q4, q5, q6, q7, q8, q9⟩ := hk k hkm
    dsimp only at q2 q3 q4 q5 q6 q7 q8 q9
    by_cases hw : 0 ≤ b ∧ b ≤ 9
    · obtain ⟨c, hc, rfl⟩ := kx_nIof (n := 9) hw.1 hw.2 (by omega)
      rcases (show c = 0 ∨ c = 1 ∨ c = 2 ∨ c = 3 ∨ c = 4 ∨ c = 5 ∨ c = 6 ∨ c = 7 ∨ c = 8 ∨ c = 9 by omega) with rfl | rfl | rfl | rfl | rfl | rfl | rfl | rfl | rfl | rfl
      · refine kx_two (by decide) (Nat.le_of_ble_eq_true rfl) (by decide) (Nat.le_of_ble_eq_true rfl) ?_
        refine kx_st 0 (pc' := 0) (L' := [some (.ref 0), some (.int (nI k)), some (.int 0), none]) (st' := []) (h' := kv_wd g w) rfl ?_
        refine kx_st 3 (pc' := 5) (L' := [some (.ref 0), some (.int (nI k)), some (.int 0), none]) (st' := [.int (nI k), .ref 1]) (h' := kv_wd g w) rfl ?_
        refine kx_call (z := 17) (as := [.ref 1, .int (nI k)]) (rest := []) (v := some (.ref (14 + k))) (h1 := kv_wd g w) rfl (ev_knotAt (d := 898) (g := g) q k hk8 hkn) ?_
        refine kx_st 0 (pc' := 8) (L' := [some (.ref 0), some (.int (nI k)), some (.int 0), none]) (st' := [.ref (14 + k)]) (h' := kv_wd g w) rfl ?_
        refine kx_st 2 (pc' := 10) (L' := [some (.ref 0), some (.int (nI k)), some (.int 0), some (.ref (14 + k))]) (st' := [.ref (14 + k)]) (h' := kv_wd g w) rfl ?_
        refine kx_st 1 (pc' := 13) (L' := [some (.ref 0), some (.int (nI k)), some (.int 0), some (.ref (14 + k))]) (st' := []) (h' := kv_wd g w) rfl ?_
        refine kx_st 2 (pc' := 16) (L' := [some (.ref 0), some (.int (nI k)), some (.int 0), some (.ref (14 + k))]) (st' := [.int 9, .int 0]) (h' := kv_wd g w) rfl ?_
        refine kx_call (z := 124) (as := [.int 0, .int 9]) (rest := []) (v := some (.int (kx_b (0 ≤ (0 : Int32) ∧ (0 : Int32) ≤ 9)))) (h1 := kv_wd g w) rfl (ev_within (d := 898) 0 9) ?_
        refine kx_st 0 (pc' := 19) (L' := [some (.ref 0), some (.int (nI k)), some (.int 0), some (.ref (14 + k))]) (st' := [.int (kx_b (0 ≤ (0 : Int32) ∧ (0 : Int32) ≤ 9))]) (h' := kv_wd g w) rfl ?_
        refine kx_bn (t := 28) rfl rfl (fun (h19 : (0 ≤ (0 : Int32) ∧ (0 : Int32) ≤ 9)) => ?_) (fun (h19 : ¬ (0 ≤ (0 : Int32) ∧ (0 : Int32) ≤ 9)) => ?_)
        · refine kx_st 2 (pc' := 31) (L' := [some (.ref 0), some (.int (nI k)), some (.int 0), some (.ref (14 + k))]) (st' := [.int 9, .int 0]) (h' := kv_wd g w) rfl ?_
          refine kx_st 1 (pc' := 51) (L' := [some (.ref 0), some (.int (nI k)), some (.int 0), some (.ref (14 + k))]) (st' := []) (h' := kv_wd g w) rfl ?_
          refine kx_st 2 (pc' := 53) (L' := [some (.ref 0), some (.int (nI k)), some (.int 0), some (.ref (14 + k))]) (st' := [.int 0, .ref (14 + k)]) (h' := kv_wd g w) rfl ?_
          refine kx_call (z := 30) (as := [.ref (14 + k), .int 0]) (rest := []) (v := some (.int (g (14 + k) 0))) (h1 := kv_wd g w) (kx_cv (b := 14 + k) (A := [.int 0]) (rest := []) rfl rfl rfl rfl (Nat.le_of_ble_eq_true rfl) (kv_kn_h hk8).1 ((kv_kn_h hk8).2 _ _)) (ev_fact_0 (d := 898) k hk8) ?_
          refine kx_st 0 (pc' := 56) (L' := [some (.ref 0), some (.int (nI k)), some (.int 0), some (.ref (14 + k))]) (st' := [.int (g (14 + k) 0)]) (h' := kv_wd g w) rfl ?_
          refine kx_ret (v := some (.int (g (14 + k) 0))) rfl ?_
          refine ⟨_, _, _, rfl, rfl, ?_⟩
          refine kx_st 0 (pc' := 0) (L' := [some (.ref 65), some (.int (nI k)), some (.int 0)]) (st' := []) (h' := kv_wd g w) rfl ?_
          refine kx_st 2 (pc' := 2) (L' := [some (.ref 65), some (.int (nI k)), some (.int 0)]) (st' := [.int (nI k), .ref 65]) (h' := kv_wd g w) rfl ?_
          refine kx_call (z := 139) (as := [.ref 65, .int (nI k)]) (rest := []) (v := some (.int (kx_b (0 ≤ nI k ∧ nI k < nI m)))) (h1 := kv_wd g w) rfl (ev_mKnotS (d := 897) (g := g) (s := m) (by first | exact d2 | (rw [kv_up_ne (by omega)]; exact d2)) a4 (nI k)) ?_
          refine kx_st 0 (pc' := 5) (L' := [some (.ref 65), some (.int (nI k)), some (.int 0)]) (st' := [.int (kx_b (0 ≤ nI k ∧ nI k < nI m))]) (h' := kv_wd g w) rfl ?_
          refine kx_be (t := 18) rfl rfl (fun (m5 : ¬ (0 ≤ nI k ∧ nI k < nI m)) => ?_) (fun (m5 : (0 ≤ nI k ∧ nI k < nI m)) => ?_)
          · exact absurd hv m5
          · refine kx_st 0 (pc' := 8) (L' := [some (.ref 65), some (.int (nI k)), some (.int 0)]) (st' := []) (h' := kv_wd g w) rfl ?_
            refine kx_st 3 (pc' := 12) (L' := [some (.ref 65), some (.int (nI k)), some (.int 0)]) (st' := [.int 9, .int 0, .int 0]) (h' := kv_wd g w) rfl ?_
            refine kx_call (z := 130) (as := [.int 0, .int 0, .int 9]) (rest := []) (v := some (.int (kx_b (0 ≤ (0 : Int32) ∧ (0 : Int32) ≤ 9)))) (h1 := kv_wd g w) rfl (ev_in (d := 898) 0 0 9) ?_
            refine kx_st 0 (pc' := 15) (L' := [some (.ref 65), some (.int (nI k)), some (.int 0)]) (st' := [.int (kx_b (0 ≤ (0 : Int32) ∧ (0 : Int32) ≤ 9))]) (h' := kv_wd g w) rfl ?_
            refine kx_bn (t := 25) rfl rfl (fun (m15 : (0 ≤ (0 : Int32) ∧ (0 : Int32) ≤ 9)) => ?_) (fun (m15 : ¬ (0 ≤ (0 : Int32) ∧ (0 : Int32) ≤ 9)) => ?_)
            · refine kx_st 2 (pc' := 28) (L' := [some (.ref 65), some (.int (nI k)), some (.int 0)]) (st' := [.int 9, .int 0]) (h' := kv_wd g w) rfl ?_
              refine kx_st 1 (pc' := 31) (L' := [some (.ref 65), some (.int (nI k)), some (.int 0)]) (st' := []) (h' := kv_wd g w) rfl ?_
              refine kx_st 3 (pc' := 34) (L' := [some (.ref 65), some (.int (nI k)), some (.int 0)]) (st' := [.int 0, .int (nI k), .ref 65]) (h' := kv_wd g w) rfl ?_
              refine kx_call (z := 136) (as := [.ref 65, .int (nI k), .int 0]) (rest := []) (v := some (.int (g 66 (26 + 9 * k + 0)))) (h1 := kv_wd g w) rfl (ev_its (d := 898) k 0 (by omega)) ?_
              refine kx_st 0 (pc' := 37) (L' := [some (.ref 65), some (.int (nI k)), some (.int 0)]) (st' := [.int (g 66 (26 + 9 * k + 0))]) (h' := kv_wd g w) rfl ?_
              refine kx_st 1 (pc' := 45) (L' := [some (.ref 65), some (.int (nI k)), some (.int 0)]) (st' := [.int (g 66 (26 + 9 * k + 0))]) (h' := kv_wd g w) rfl ?_
              refine kx_ret (v := some (.int (g 66 (26 + 9 * k + 0)))) rfl ?_
              exact ⟨congrArg (fun z => some (Value.int z)) (kf 0 (by omega)).symm, _, _, rfl, kx_Rl_skip lr g w i hR⟩
            · exact absurd hw m15
        · exact absurd hw h19
      · refine kx_two (by decide) (Nat.le_of_ble_eq_true rfl) (by decide) (Nat.le_of_ble_eq_true rfl) ?_
        refine kx_st 0 (pc' := 0) (L' := [some (.ref 0), some (.int (nI k)), some (.int 1), none]) (st' := []) (h' := kv_wd g w) rfl ?_
        refine kx_st 3 (pc' := 5) (L' := [some (.ref 0), some (.int (nI k)), some (.int 1), none]) (st' := [.int (nI k), .ref 1]) (h' := kv_wd g w) rfl ?_
        refine kx_call (z := 17) (as := [.ref 1, .int (nI k)]) (rest := []) (v := some (.ref (14 + k))) (h1 := kv_wd g w) rfl (ev_knotAt (d := 898) (g := g) q k hk8 hkn) ?_
        refine kx_st 0 (pc' := 8) (L' := [some (.ref 0), some (.int (nI k)), some (.int 1), none]) (st' := [.ref (14 + k)]) (h' := kv_wd g w) rfl ?_
        refine kx_st 2 (pc' := 10) (L' := [some (.ref 0), some (.int (nI k)), some (.int 1), some (.ref (14 + k))]) (st' := [.ref (14 + k)]) (h' := kv_wd g w) rfl ?_
        refine kx_st 1 (pc' := 13) (L' := [some (.ref 0), some (.int (nI k)), some (.int 1), some (.ref (14 + k))]) (st' := []) (h' := kv_wd g w) rfl ?_
        refine kx_st 2 (pc' := 16) (L' := [some (.ref 0), some (.int (nI k)), some (.int 1), some (.ref (14 + k))]) (st' := [.int 9, .int 1]) (h' := kv_wd g w) rfl ?_
        refine kx_call (z := 124) (as := [.int 1, .int 9]) (rest := []) (v := some (.int (kx_b (0 ≤ (1 : Int32) ∧ (1 : Int32) ≤ 9)))) (h1 := kv_wd g w) rfl (ev_within (d := 898) 1 9) ?_
        refine kx_st 0 (pc' := 19) (L' := [some (.ref 0), some (.int (nI k)), some (.int 1), some (.ref (14 + k))]) (st' := [.int (kx_b (0 ≤ (1 : Int32) ∧ (1 : Int32) ≤ 9))]) (h' := kv_wd g w) rfl ?_
        refine kx_bn (t := 28) rfl rfl (fun (h19 : (0 ≤ (1 : Int32) ∧ (1 : Int32) ≤ 9)) => ?_) (fun (h19 : ¬ (0 ≤ (1 : Int32) ∧ (1 : Int32) ≤ 9)) => ?_)
        · refine kx_st 2 (pc' := 31) (L' := [some (.ref 0), some (.int (nI k)), some (.int 1), some (.ref (14 + k))]) (st' := [.int 9, .int 1]) (h' := kv_wd g w) rfl ?_
          refine kx_st 1 (pc' := 51) (L' := [some (.ref 0), some (.int (nI k)), some (.int 1), some (.ref (14 + k))]) (st' := []) (h' := kv_wd g w) rfl ?_
          refine kx_st 2 (pc' := 53) (L' := [some (.ref 0), some (.int (nI k)), some (.int 1), some (.ref (14 + k))]) (st' := [.int 1, .ref (14 + k)]) (h' := kv_wd g w) rfl ?_
          refine kx_call (z := 30) (as := [.ref (14 + k), .int 1]) (rest := []) (v := some (.int (g (14 + k) 1))) (h1 := kv_wd g w) (kx_cv (b := 14 + k) (A := [.int 1]) (rest := []) rfl rfl rfl rfl (Nat.le_of_ble_eq_true rfl) (kv_kn_h hk8).1 ((kv_kn_h hk8).2 _ _)) (ev_fact_1 (d := 898) k hk8) ?_
          refine kx_st 0 (pc' := 56) (L' := [some (.ref 0), some (.int (nI k)), some (.int 1), some (.ref (14 + k))]) (st' := [.int (g (14 + k) 1)]) (h' := kv_wd g w) rfl ?_
          refine kx_ret (v := some (.int (g (14 + k) 1))) rfl ?_
          refine ⟨_, _, _, rfl, rfl, ?_⟩
          refine kx_st 0 (pc' := 0) (L' := [some (.ref 65), some (.int (nI k)), some (.int 1)]) (st' := []) (h' := kv_wd g w) rfl ?_
          refine kx_st 2 (pc' := 2) (L' := [some (.ref 65), some (.int (nI k)), some (.int 1)]) (st' := [.int (nI k), .ref 65]) (h' := kv_wd g w) rfl ?_
          refine kx_call (z := 139) (as := [.ref 65, .int (nI k)]) (rest := []) (v := some (.int (kx_b (0 ≤ nI k ∧ nI k < nI m)))) (h1 := kv_wd g w) rfl (ev_mKnotS (d := 897) (g := g) (s := m) (by first | exact d2 | (rw [kv_up_ne (by omega)]; exact d2)) a4 (nI k)) ?_
          refine kx_st 0 (pc' := 5) (L' := [some (.ref 65), some (.int (nI k)), some (.int 1)]) (st' := [.int (kx_b (0 ≤ nI k ∧ nI k < nI m))]) (h' := kv_wd g w) rfl ?_
          refine kx_be (t := 18) rfl rfl (fun (m5 : ¬ (0 ≤ nI k ∧ nI k < nI m)) => ?_) (fun (m5 : (0 ≤ nI k ∧ nI k < nI m)) => ?_)
          · exact absurd hv m5
          · refine kx_st 0 (pc' := 8) (L' := [some (.ref 65), some (.int (nI k)), some (.int 1)]) (st' := []) (h' := kv_wd g w) rfl ?_
            refine kx_st 3 (pc' := 12) (L' := [some (.ref 65), some (.int (nI k)), some (.int 1)]) (st' := [.int 9, .int 0, .int 1]) (h' := kv_wd g w) rfl ?_
            refine kx_call (z := 130) (as := [.int 1, .int 0, .int 9]) (rest := []) (v := some (.int (kx_b (0 ≤ (1 : Int32) ∧ (1 : Int32) ≤ 9)))) (h1 := kv_wd g w) rfl (ev_in (d := 898) 1 0 9) ?_
            refine kx_st 0 (pc' := 15) (L' := [some (.ref 65), some (.int (nI k)), some (.int 1)]) (st' := [.int (kx_b (0 ≤ (1 : Int32) ∧ (1 : Int32) ≤ 9))]) (h' := kv_wd g w) rfl ?_
            refine kx_bn (t := 25) rfl rfl (fun (m15 : (0 ≤ (1 : Int32) ∧ (1 : Int32) ≤ 9)) => ?_) (fun (m15 : ¬ (0 ≤ (1 : Int32) ∧ (1 : Int32) ≤ 9)) => ?_)
            · refine kx_st 2 (pc' := 28) (L' := [some (.ref 65), some (.int (nI k)), some (.int 1)]) (st' := [.int 9, .int 1]) (h' := kv_wd g w) rfl ?_
              refine kx_st 1 (pc' := 31) (L' := [some (.ref 65), some (.int (nI k)), some (.int 1)]) (st' := []) (h' := kv_wd g w) rfl ?_
              refine kx_st 3 (pc' := 34) (L' := [some (.ref 65), some (.int (nI k)), some (.int 1)]) (st' := [.int 1, .int (nI k), .ref 65]) (h' := kv_wd g w) rfl ?_
              refine kx_call (z := 136) (as := [.ref 65, .int (nI k), .int 1]) (rest := []) (v := some (.int (g 66 (26 + 9 * k + 1)))) (h1 := kv_wd g w) rfl (ev_its (d := 898) k 1 (by omega)) ?_
              refine kx_st 0 (pc' := 37) (L' := [some (.ref 65), some (.int (nI k)), some (.int 1)]) (st' := [.int (g 66 (26 + 9 * k + 1))]) (h' := kv_wd g w) rfl ?_
              refine kx_st 1 (pc' := 45) (L' := [some (.ref 65), some (.int (nI k)), some (.int 1)]) (st' := [.int (g 66 (26 + 9 * k + 1))]) (h' := kv_wd g w) rfl ?_
              refine kx_ret (v := some (.int (g 66 (26 + 9 * k + 1)))) rfl ?_
              exact ⟨congrArg (fun z => some (Value.int z)) (kf 1 (by omega)).symm, _, _, rfl, kx_Rl_skip lr g w i hR⟩
            · exact absurd hw m15
        · exact absurd hw h19
      · refine kx_two (by decide) (Nat.le_of_ble_eq_true rfl) (by decide) (Nat.le_of_ble_eq_true rfl) ?_
        refine kx_st 0 (pc' := 0) (L' := [some (.ref 0), some (.int (nI k)), some (.int 2), none]) (st' := []) (h' := kv_wd g w) rfl ?_
        refine kx_st 3 (pc' := 5) (L' := [some (.ref 0), some (.int (nI k)), some (.int 2), none]) (st' := [.int (nI k), .ref 1]) (h' := kv_wd g w) rfl ?_
        refine kx_call (z := 17) (as := [.ref 1, .int (nI k)]) (rest := []) (v := some (.ref (14 + k))) (h1 := kv_wd g w) rfl (ev_knotAt (d := 898) (g := g) q k hk8 hkn) ?_
        refine kx_st 0 (pc' := 8) (L' := [some (.ref 0), some (.int (nI k)), some (.int 2), none]) (st' := [.ref (14 + k)]) (h' := kv_wd g w) rfl ?_
        refine kx_st 2 (pc' := 10) (L' := [some (.ref 0), some (.int (nI k)), some (.int 2), some (.ref (14 + k))]) (st' := [.ref (14 + k)]) (h' := kv_wd g w) rfl ?_
        refine kx_st 1 (pc' := 13) (L' := [some (.ref 0), some (.int (nI k)), some (.int 2), some (.ref (14 + k))]) (st' := []) (h' := kv_wd g w) rfl ?_
        refine kx_st 2 (pc' := 16) (L' := [some (.ref 0), some (.int (nI k)), some (.int 2), some (.ref (14 + k))]) (st' := [.int 9, .int 2]) (h' := kv_wd g w) rfl ?_
        refine kx_call (z := 124) (as := [.int 2, .int 9]) (rest := []) (v := some (.int (kx_b (0 ≤ (2 : Int32) ∧ (2 : Int32) ≤ 9)))) (h1 := kv_wd g w) rfl (ev_within (d := 898) 2 9) ?_
        refine kx_st 0 (pc' := 19) (L' := [some (.ref 0), some (.int (nI k)), some (.int 2), some (.ref (14 + k))]) (st' := [.int (kx_b (0 ≤ (2 : Int32) ∧ (2 : Int32) ≤ 9))]) (h' := kv_wd g w) rfl ?_
        refine kx_bn (t := 28) rfl rfl (fun (h19 : (0 ≤ (2 : Int32) ∧ (2 : Int32) ≤ 9)) => ?_) (fun (h19 : ¬ (0 ≤ (2 : Int32) ∧ (2 : Int32) ≤ 9)) => ?_)
        · refine kx_st 2 (pc' := 31) (L' := [some (.ref 0), some (.int (nI k)), some (.int 2), some (.ref (14 + k))]) (st' := [.int 9, .int 2]) (h' := kv_wd g w) rfl ?_
          refine kx_st 1 (pc' := 51) (L' := [some (.ref 0), some (.int (nI k)), some (.int 2), some (.ref (14 + k))]) (st' := []) (h' := kv_wd g w) rfl ?_
          refine kx_st 2 (pc' := 53) (L' := [some (.ref 0), some (.int (nI k)), some (.int 2), some (.ref (14 + k))]) (st' := [.int 2, .ref (14 + k)]) (h' := kv_wd g w) rfl ?_
          refine kx_call (z := 30) (as := [.ref (14 + k), .int 2]) (rest := []) (v := some (.int (g (14 + k) 2))) (h1 := kv_wd g w) (kx_cv (b := 14 + k) (A := [.int 2]) (rest := []) rfl rfl rfl rfl (Nat.le_of_ble_eq_true rfl) (kv_kn_h hk8).1 ((kv_kn_h hk8).2 _ _)) (ev_fact_2 (d := 898) k hk8) ?_
          refine kx_st 0 (pc' := 56) (L' := [some (.ref 0), some (.int (nI k)), some (.int 2), some (.ref (14 + k))]) (st' := [.int (g (14 + k) 2)]) (h' := kv_wd g w) rfl ?_
          refine kx_ret (v := some (.int (g (14 + k) 2))) rfl ?_
          refine ⟨_, _, _, rfl, rfl, ?_⟩
          refine kx_st 0 (pc' := 0) (L' := [some (.ref 65), some (.int (nI k)), some (.int 2)]) (st' := []) (h' := kv_wd g w) rfl ?_
          refine kx_st 2 (pc' := 2) (L' := [some (.ref 65), some (.int (nI k)), some (.int 2)]) (st' := [.int (nI k), .ref 65]) (h' := kv_wd g w) rfl ?_
          refine kx_call (z := 139) (as := [.ref 65, .int (nI k)]) (rest := []) (v := some (.int (kx_b (0 ≤ nI k ∧ nI k < nI m)))) (h1 := kv_wd g w) rfl (ev_mKnotS (d := 897) (g := g) (s := m) (by first | exact d2 | (rw [kv_up_ne (by omega)]; exact d2)) a4 (nI k)) ?_
          refine kx_st 0 (pc' := 5) (L' := [some (.ref 65), some (.int (nI k)), some (.int 2)]) (st' := [.int (kx_b (0 ≤ nI k ∧ nI k < nI m))]) (h' := kv_wd g w) rfl ?_
          refine kx_be (t := 18) rfl rfl (fun (m5 : ¬ (0 ≤ nI k ∧ nI k < nI m)) => ?_) (fun (m5 : (0 ≤ nI k ∧ nI k < nI m)) => ?_)
          · exact absurd hv m5
          · refine kx_st 0 (pc' := 8) (L' := [some (.ref 65), some (.int (nI k)), some (.int 2)]) (st' := []) (h' := kv_wd g w) rfl ?_
            refine kx_st 3 (pc' := 12) (L' := [some (.ref 65), some (.int (nI k)), some (.int 2)]) (st' := [.int 9, .int 0, .int 2]) (h' := kv_wd g w) rfl ?_
            refine kx_call (z := 130) (as := [.int 2, .int 0, .int 9]) (rest := []) (v := some (.int (kx_b (0 ≤ (2 : Int32) ∧ (2 : Int32) ≤ 9)))) (h1 := kv_wd g w) rfl (ev_in (d := 898) 2 0 9) ?_
            refine kx_st 0 (pc' := 15) (L' := [some (.ref 65), some (.int (nI k)), some (.int 2)]) (st' := [.int (kx_b (0 ≤ (2 : Int32) ∧ (2 : Int32) ≤ 9))]) (h' := kv_wd g w) rfl ?_
            refine kx_bn (t := 25) rfl rfl (fun (m15 : (0 ≤ (2 : Int32) ∧ (2 : Int32) ≤ 9)) => ?_) (fun (m15 : ¬ (0 ≤ (2 : Int32) ∧ (2 : Int32) ≤ 9)) => ?_)
            · refine kx_st 2 (pc' := 28) (L' := [some (.ref 65), some (.int (nI k)), some (.int 2)]) (st' := [.int 9, .int 2]) (h' := kv_wd g w) rfl ?_
              refine kx_st 1 (pc' := 31) (L' := [some (.ref 65), some (.int (nI k)), some (.int 2)]) (st' := []) (h' := kv_wd g w) rfl ?_
              refine kx_st 3 (pc' := 34) (L' := [some (.ref 65), some (.int (nI k)), some (.int 2)]) (st' := [.int 2, .int (nI k), .ref 65]) (h' := kv_wd g w) rfl ?_
              refine kx_call (z := 136) (as := [.ref 65, .int (nI k), .int 2]) (rest := []) (v := some (.int (g 66 (26 + 9 * k + 2)))) (h1 := kv_wd g w) rfl (ev_its (d := 898) k 2 (by omega)) ?_
              refine kx_st 0 (pc' := 37) (L' := [some (.ref 65), some (.int (nI k)), some (.int 2)]) (st' := [.int (g 66 (26 + 9 * k + 2))]) (h' := kv_wd g w) rfl ?_
              refine kx_st 1 (pc' := 45) (L' := [some (.ref 65), some (.int (nI k)), some (.int 2)]) (st' := [.int (g 66 (26 + 9 * k + 2))]) (h' := kv_wd g w) rfl ?_
              refine kx_ret (v := some (.int (g 66 (26 + 9 * k + 2)))) rfl ?_
              exact ⟨congrArg (fun z => some (Value.int z)) (kf 2 (by omega)).symm, _, _, rfl, kx_Rl_skip lr g w i hR⟩
            · exact absurd hw m15
        · exact absurd hw h19
      · refine kx_two (by decide) (Nat.le_of_ble_eq_true rfl) (by decide) (Nat.le_of_ble_eq_true rfl) ?_
        refine kx_st 0 (pc' := 0) (L' := [some (.ref 0), some (.int (nI k)), some (.int 3), none]) (st' := []) (h' := kv_wd g w) rfl ?_
        refine kx_st 3 (pc' := 5) (L' := [some (.ref 0), some (.int (nI k)), some (.int 3), none]) (st' := [.int (nI k), .ref 1]) (h' := kv_wd g w) rfl ?_
        refine kx_call (z := 17) (as := [.ref 1, .int (nI k)]) (rest := []) (v := some (.ref (14 + k))) (h1 := kv_wd g w) rfl (ev_knotAt (d := 898) (g := g) q k hk8 hkn) ?_
        refine kx_st 0 (pc' := 8) (L' := [some (.ref 0), some (.int (nI k)), some (.int 3), none]) (st' := [.ref (14 + k)]) (h' := kv_wd g w) rfl ?_
        refine kx_st 2 (pc' := 10) (L' := [some (.ref 0), some (.int (nI k)), some (.int 3), some (.ref (14 + k))]) (st' := [.ref (14 + k)]) (h' := kv_wd g w) rfl ?_
        refine kx_st 1 (pc' := 13) (L' := [some (.ref 0), some (.int (nI k)), some (.int 3), some (.ref (14 + k))]) (st' := []) (h' := kv_wd g w) rfl ?_
        refine kx_st 2 (pc' := 16) (L' := [some (.ref 0), some (.int (nI k)), some (.int 3), some (.ref (14 + k))]) (st' := [.int 9, .int 3]) (h' := kv_wd g w) rfl ?_
        refine kx_call (z := 124) (as := [.int 3, .int 9]) (rest := []) (v := some (.int (kx_b (0 ≤ (3 : Int32) ∧ (3 : Int32) ≤ 9)))) (h1 := kv_wd g w) rfl (ev_within (d := 898) 3 9) ?_
        refine kx_st 0 (pc' := 19) (L' := [some (.ref 0), some (.int (nI k)), some (.int 3), some (.ref (14 + k))]) (st' := [.int (kx_b (0 ≤ (3 : Int32) ∧ (3 : Int32) ≤ 9))]) (h' := kv_wd g w) rfl ?_
        refine kx_bn (t := 28) rfl rfl (fun (h19 : (0 ≤ (3 : Int32) ∧ (3 : Int32) ≤ 9)) => ?_) (fun (h19 : ¬ (0 ≤ (3 : Int32) ∧ (3 : Int32) ≤ 9)) => ?_)
        · refine kx_st 2 (pc' := 31) (L' := [some (.ref 0), some (.int (nI k)), some (.int 3), some (.ref (14 + k))]) (st' := [.int 9, .int 3]) (h' := kv_wd g w) rfl ?_
          refine kx_st 1 (pc' := 51) (L' := [some (.ref 0), some (.int (nI k)), some (.int 3), some (.ref (14 + k))]) (st' := []) (h' := kv_wd g w) rfl ?_
          refine kx_st 2 (pc' := 53) (L' := [some (.ref 0), some (.int (nI k)), some (.int 3), some (.ref (14 + k))]) (st' := [.int 3, .ref (14 + k)]) (h' := kv_wd g w) rfl ?_
          refine kx_call (z := 30) (as := [.ref (14 + k), .int 3]) (rest := []) (v := some (.int (g (14 + k) 3))) (h1 := kv_wd g w) (kx_cv (b := 14 + k) (A := [.int 3]) (rest := []) rfl rfl rfl rfl (Nat.le_of_ble_eq_true rfl) (kv_kn_h hk8).1 ((kv_kn_h hk8).2 _ _)) (ev_fact_3 (d := 898) k hk8) ?_
          refine kx_st 0 (pc' := 56) (L' := [some (.ref 0), some (.int (nI k)), some (.int 3), some (.ref (14 + k))]) (st' := [.int (g (14 + k) 3)]) (h' := kv_wd g w) rfl ?_
          refine kx_ret (v := some (.int (g (14 + k) 3))) rfl ?_
          refine ⟨_, _, _, rfl, rfl, ?_⟩
          refine kx_st 0 (pc' := 0) (L' := [some (.ref 65), some (.int (nI k)), some (.int 3)]) (st' := []) (h' := kv_wd g w) rfl ?_
          refine kx_st 2 (pc' := 2) (L' := [some (.ref 65), some (.int (nI k)), some (.int 3)]) (st' := [.int (nI k), .ref 65]) (h' := kv_wd g w) rfl ?_
          refine kx_call (z := 139) (as := [.ref 65, .int (nI k)]) (rest := []) (v := some (.int (kx_b (0 ≤ nI k ∧ nI k < nI m)))) (h1 := kv_wd g w) rfl (ev_mKnotS (d := 897) (g := g) (s := m) (by first | exact d2 | (rw [kv_up_ne (by omega)]; exact d2)) a4 (nI k)) ?_
          refine kx_st 0 (pc' := 5) (L' := [some (.ref 65), some (.int (nI k)), some (.int 3)]) (st' := [.int (kx_b (0 ≤ nI k ∧ nI k < nI m))]) (h' := kv_wd g w) rfl ?_
          refine kx_be (t := 18) rfl rfl (fun (m5 : ¬ (0 ≤ nI k ∧ nI k < nI m)) => ?_) (fun (m5 : (0 ≤ nI k ∧ nI k < nI m)) => ?_)
          · exact absurd hv m5
          · refine kx_st 0 (pc' := 8) (L' := [some (.ref 65), some (.int (nI k)), some (.int 3)]) (st' := []) (h' := kv_wd g w) rfl ?_
            refine kx_st 3 (pc' := 12) (L' := [some (.ref 65), some (.int (nI k)), some (.int 3)]) (st' := [.int 9, .int 0, .int 3]) (h' := kv_wd g w) rfl ?_
            refine kx_call (z := 130) (as := [.int 3, .int 0, .int 9]) (rest := []) (v := some (.int (kx_b (0 ≤ (3 : Int32) ∧ (3 : Int32) ≤ 9)))) (h1 := kv_wd g w) rfl (ev_in (d := 898) 3 0 9) ?_
            refine kx_st 0 (pc' := 15) (L' := [some (.ref 65), some (.int (nI k)), some (.int 3)]) (st' := [.int (kx_b (0 ≤ (3 : Int32) ∧ (3 : Int32) ≤ 9))]) (h' := kv_wd g w) rfl ?_
            refine kx_bn (t := 25) rfl rfl (fun (m15 : (0 ≤ (3 : Int32) ∧ (3 : Int32) ≤ 9)) => ?_) (fun (m15 : ¬ (0 ≤ (3 : Int32) ∧ (3 : Int32) ≤ 9)) => ?_)
            · refine kx_st 2 (pc' := 28) (L' := [some (.ref 65), some (.int (nI k)), some (.int 3)]) (st' := [.int 9, .int 3]) (h' := kv_wd g w) rfl ?_
              refine kx_st 1 (pc' := 31) (L' := [some (.ref 65), some (.int (nI k)), some (.int 3)]) (st' := []) (h' := kv_wd g w) rfl ?_
              refine kx_st 3 (pc' := 34) (L' := [some (.ref 65), some (.int (nI k)), some (.int 3)]) (st' := [.int 3, .int (nI k), .ref 65]) (h' := kv_wd g w) rfl ?_
              refine kx_call (z := 136) (as := [.ref 65, .int (nI k), .int 3]) (rest := []) (v := some (.int (g 66 (26 + 9 * k + 3)))) (h1 := kv_wd g w) rfl (ev_its (d := 898) k 3 (by omega)) ?_
              refine kx_st 0 (pc' := 37) (L' := [some (.ref 65), some (.int (nI k)), some (.int 3)]) (st' := [.int (g 66 (26 + 9 * k + 3))]) (h' := kv_wd g w) rfl ?_
              refine kx_st 1 (pc' := 45) (L' := [some (.ref 65), some (.int (nI k)), some (.int 3)]) (st' := [.int (g 66 (26 + 9 * k + 3))]) (h' := kv_wd g w) rfl ?_
              refine kx_ret (v := some (.int (g 66 (26 + 9 * k + 3)))) rfl ?_
              exact ⟨congrArg (fun z => some (Value.int z)) (kf 3 (by omega)).symm, _, _, rfl, kx_Rl_skip lr g w i hR⟩
            · exact absurd hw m15
        · exact absurd hw h19
      · refine kx_two (by decide) (Nat.le_of_ble_eq_true rfl) (by decide) (Nat.le_of_ble_eq_true rfl) ?_
        refine kx_st 0 (pc' := 0) (L' := [some (.ref 0), some (.int (nI k)), some (.int 4), none]) (st' := []) (h' := kv_wd g w) rfl ?_
        refine kx_st 3 (pc' := 5) (L' := [some (.ref 0), some (.int (nI k)), some (.int 4), none]) (st' := [.int (nI k), .ref 1]) (h' := kv_wd g w) rfl ?_
        refine kx_call (z := 17) (as := [.ref 1, .int (nI k)]) (rest := []) (v := some (.ref (14 + k))) (h1 := kv_wd g w) rfl (ev_knotAt (d := 898) (g := g) q k hk8 hkn) ?_
        refine kx_st 0 (pc' := 8) (L' := [some (.ref 0), some (.int (nI k)), some (.int 4), none]) (st' := [.ref (14 + k)]) (h' := kv_wd g w) rfl ?_
        refine kx_st 2 (pc' := 10) (L' := [some (.ref 0), some (.int (nI k)), some (.int 4), some (.ref (14 + k))]) (st' := [.ref (14 + k)]) (h' := kv_wd g w) rfl ?_
        refine kx_st 1 (pc' := 13) (L' := [some (.ref 0), some (.int (nI k)), some (.int 4), some (.ref (14 + k))]) (st' := []) (h' := kv_wd g w) rfl ?_
        refine kx_st 2 (pc' := 16) (L' := [some (.ref 0), some (.int (nI k)), some (.int 4), some (.ref (14 + k))]) (st' := [.int 9, .int 4]) (h' := kv_wd g w) rfl ?_
        refine kx_call (z := 124) (as := [.int 4, .int 9]) (rest := []) (v := some (.int (kx_b (0 ≤ (4 : Int32) ∧ (4 : Int32) ≤ 9)))) (h1 := kv_wd g w) rfl (ev_within (d := 898) 4 9) ?_
        refine kx_st 0 (pc' := 19) (L' := [some (.ref 0), some (.int (nI k)), some (.int 4), some (.ref (14 + k))]) (st' := [.int (kx_b (0 ≤ (4 : Int32) ∧ (4 : Int32) ≤ 9))]) (h' := kv_wd g w) rfl ?_
        refine kx_bn (t := 28) rfl rfl (fun (h19 : (0 ≤ (4 : Int32) ∧ (4 : Int32) ≤ 9)) => ?_) (fun (h19 : ¬ (0 ≤ (4 : Int32) ∧ (4 : Int32) ≤ 9)) => ?_)
        · refine kx_st 2 (pc' := 31) (L' := [some (.ref 0), some (.int (nI k)), some (.int 4), some (.ref (14 + k))]) (st' := [.int 9, .int 4]) (h' := kv_wd g w) rfl ?_
          refine kx_st 1 (pc' := 51) (L' := [some (.ref 0), some (.int (nI k)), some (.int 4), some (.ref (14 + k))]) (st' := []) (h' := kv_wd g w) rfl ?_
          refine kx_st 2 (pc' := 53) (L' := [some (.ref 0), some (.int (nI k)), some (.int 4), some (.ref (14 + k))]) (st' := [.int 4, .ref (14 + k)]) (h' := kv_wd g w) rfl ?_
          refine kx_call (z := 30) (as := [.ref (14 + k), .int 4]) (rest := []) (v := some (.int (g (14 + k) 4))) (h1 := kv_wd g w) (kx_cv (b := 14 + k) (A := [.int 4]) (rest := []) rfl rfl rfl rfl (Nat.le_of_ble_eq_true rfl) (kv_kn_h hk8).1 ((kv_kn_h hk8).2 _ _)) (ev_fact_4 (d := 898) k hk8) ?_
          refine kx_st 0 (pc' := 56) (L' := [some (.ref 0), some (.int (nI k)), some (.int 4), some (.ref (14 + k))]) (st' := [.int (g (14 + k) 4)]) (h' := kv_wd g w) rfl ?_
          refine kx_ret (v := some (.int (g (14 + k) 4))) rfl ?_
          refine ⟨_, _, _, rfl, rfl, ?_⟩
          refine kx_st 0 (pc' := 0) (L' := [some (.ref 65), some (.int (nI k)), some (.int 4)]) (st' := []) (h' := kv_wd g w) rfl ?_
          refine kx_st 2 (pc' := 2) (L' := [some (.ref 65), some (.int (nI k)), some (.int 4)]) (st' := [.int (nI k), .ref 65]) (h' := kv_wd g w) rfl ?_
          refine kx_call (z := 139) (as := [.ref 65, .int (nI k)]) (rest := []) (v := some (.int (kx_b (0 ≤ nI k ∧ nI k < nI m)))) (h1 := kv_wd g w) rfl (ev_mKnotS (d := 897) (g := g) (s := m) (by first | exact d2 | (rw [kv_up_ne (by omega)]; exact d2)) a4 (nI k)) ?_
          refine kx_st 0 (pc' := 5) (L' := [some (.ref 65), some (.int (nI k)), some (.int 4)]) (st' := [.int (kx_b (0 ≤ nI k ∧ nI k < nI m))]) (h' := kv_wd g w) rfl ?_
          refine kx_be (t := 18) rfl rfl (fun (m5 : ¬ (0 ≤ nI k ∧ nI k < nI m)) => ?_) (fun (m5 : (0 ≤ nI k ∧ nI k < nI m)) => ?_)
          · exact absurd hv m5
          · refine kx_st 0 (pc' := 8) (L' := [some (.ref 65), some (.int (nI k)), some (.int 4)]) (st' := []) (h' := kv_wd g w) rfl ?_
            refine kx_st 3 (pc' := 12) (L' := [some (.ref 65), some (.int (nI k)), some (.int 4)]) (st' := [.int 9, .int 0, .int 4]) (h' := kv_wd g w) rfl ?_
            refine kx_call (z := 130) (as := [.int 4, .int 0, .int 9]) (rest := []) (v := some (.int (kx_b (0 ≤ (4 : Int32) ∧ (4 : Int32) ≤ 9)))) (h1 := kv_wd g w) rfl (ev_in (d := 898) 4 0 9) ?_
            refine kx_st 0 (pc' := 15) (L' := [some (.ref 65), some (.int (nI k)), some (.int 4)]) (st' := [.int (kx_b (0 ≤ (4 : Int32) ∧ (4 : Int32) ≤ 9))]) (h' := kv_wd g w) rfl ?_
            refine kx_bn (t := 25) rfl rfl (fun (m15 : (0 ≤ (4 : Int32) ∧ (4 : Int32) ≤ 9)) => ?_) (fun (m15 : ¬ (0 ≤ (4 : Int32) ∧ (4 : Int32) ≤ 9)) => ?_)
            · refine kx_st 2 (pc' := 28) (L' := [some (.ref 65), some (.int (nI k)), some (.int 4)]) (st' := [.int 9, .int 4]) (h' := kv_wd g w) rfl ?_
              refine kx_st 1 (pc' := 31) (L' := [some (.ref 65), some (.int (nI k)), some (.int 4)]) (st' := []) (h' := kv_wd g w) rfl ?_
              refine kx_st 3 (pc' := 34) (L' := [some (.ref 65), some (.int (nI k)), some (.int 4)]) (st' := [.int 4, .int (nI k), .ref 65]) (h' := kv_wd g w) rfl ?_
              refine kx_call (z := 136) (as := [.ref 65, .int (nI k), .int 4]) (rest := []) (v := some (.int (g 66 (26 + 9 * k + 4)))) (h1 := kv_wd g w) rfl (ev_its (d := 898) k 4 (by omega)) ?_
              refine kx_st 0 (pc' := 37) (L' := [some (.ref 65), some (.int (nI k)), some (.int 4)]) (st' := [.int (g 66 (26 + 9 * k + 4))]) (h' := kv_wd g w) rfl ?_
              refine kx_st 1 (pc' := 45) (L' := [some (.ref 65), some (.int (nI k)), some (.int 4)]) (st' := [.int (g 66 (26 + 9 * k + 4))]) (h' := kv_wd g w) rfl ?_
              refine kx_ret (v := some (.int (g 66 (26 + 9 * k + 4)))) rfl ?_
              exact ⟨congrArg (fun z => some (Value.int z)) (kf 4 (by omega)).symm, _, _, rfl, kx_Rl_skip lr g w i hR⟩
            · exact absurd hw m15
        · exact absurd hw h19
      · refine kx_two (by decide) (Nat.le_of_ble_eq_true rfl) (by decide) (Nat.le_of_ble_eq_true rfl) ?_
        refine kx_st 0 (pc' := 0) (L' := [some (.ref 0), some (.int (nI k)), some (.int 5), none]) (st' := []) (h' := kv_wd g w) rfl ?_
        refine kx_st 3 (pc' := 5) (L' := [some (.ref 0), some (.int (nI k)), some (.int 5), none]) (st' := [.int (nI k), .ref 1]) (h' := kv_wd g w) rfl ?_
        refine kx_call (z := 17) (as := [.ref 1, .int (nI k)]) (rest := []) (v := some (.ref (14 + k))) (h1 := kv_wd g w) rfl (ev_knotAt (d := 898) (g := g) q k hk8 hkn) ?_
        refine kx_st 0 (pc' := 8) (L' := [some (.ref 0), some (.int (nI k)), some (.int 5), none]) (st' := [.ref (14 + k)]) (h' := kv_wd g w) rfl ?_
        refine kx_st 2 (pc' := 10) (L' := [some (.ref 0), some (.int (nI k)), some (.int 5), some (.ref (14 + k))]) (st' := [.ref (14 + k)]) (h' := kv_wd g w) rfl ?_
        refine kx_st 1 (pc' := 13) (L' := [some (.ref 0), some (.int (nI k)), some (.int 5), some (.ref (14 + k))]) (st' := []) (h' := kv_wd g w) rfl ?_
        refine kx_st 2 (pc' := 16) (L' := [some (.ref 0), some (.int (nI k)), some (.int 5), some (.ref (14 + k))]) (st' := [.int 9, .int 5]) (h' := kv_wd g w) rfl ?_
        refine kx_call (z := 124) (as := [.int 5, .int 9]) (rest := []) (v := some (.int (kx_b (0 ≤ (5 : Int32) ∧ (5 : Int32) ≤ 9)))) (h1 := kv_wd g w) rfl (ev_within (d := 898) 5 9) ?_
        refine kx_st 0 (pc' := 19) (L' := [some (.ref 0), some (.int (nI k)), some (.int 5), some (.ref (14 + k))]) (st' := [.int (kx_b (0 ≤ (5 : Int32) ∧ (5 : Int32) ≤ 9))]) (h' := kv_wd g w) rfl ?_
        refine kx_bn (t := 28) rfl rfl (fun (h19 : (0 ≤ (5 : Int32) ∧ (5 : Int32) ≤ 9)) => ?_) (fun (h19 : ¬ (0 ≤ (5 : Int32) ∧ (5 : Int32) ≤ 9)) => ?_)
        · refine kx_st 2 (pc' := 31) (L' := [some (.ref 0), some (.int (nI k)), some (.int 5), some (.ref (14 + k))]) (st' := [.int 9, .int 5]) (h' := kv_wd g w) rfl ?_
          refine kx_st 1 (pc' := 51) (L' := [some (.ref 0), some (.int (nI k)), some (.int 5), some (.ref (14 + k))]) (st' := []) (h' := kv_wd g w) rfl ?_
          refine kx_st 2 (pc' := 53) (L' := [some (.ref 0), some (.int (nI k)), some (.int 5), some (.ref (14 + k))]) (st' := [.int 5, .ref (14 + k)]) (h' := kv_wd g w) rfl ?_
          refine kx_call (z := 30) (as := [.ref (14 + k), .int 5]) (rest := []) (v := some (.int (g (14 + k) 5))) (h1 := kv_wd g w) (kx_cv (b := 14 + k) (A := [.int 5]) (rest := []) rfl rfl rfl rfl (Nat.le_of_ble_eq_true rfl) (kv_kn_h hk8).1 ((kv_kn_h hk8).2 _ _)) (ev_fact_5 (d := 898) k hk8) ?_
          refine kx_st 0 (pc' := 56) (L' := [some (.ref 0), some (.int (nI k)), some (.int 5), some (.ref (14 + k))]) (st' := [.int (g (14 + k) 5)]) (h' := kv_wd g w) rfl ?_
          refine kx_ret (v := some (.int (g (14 + k) 5))) rfl ?_
          refine ⟨_, _, _, rfl, rfl, ?_⟩
          refine kx_st 0 (pc' := 0) (L' := [some (.ref 65), some (.int (nI k)), some (.int 5)]) (st' := []) (h' := kv_wd g w) rfl ?_
          refine kx_st 2 (pc' := 2) (L' := [some (.ref 65), some (.int (nI k)), some (.int 5)]) (st' := [.int (nI k), .ref 65]) (h' := kv_wd g w) rfl ?_
          refine kx_call (z := 139) (as := [.ref 65, .int (nI k)]) (rest := []) (v := some (.int (kx_b (0 ≤ nI k ∧ nI k < nI m)))) (h1 := kv_wd g w) rfl (ev_mKnotS (d := 897) (g := g) (s := m) (by first | exact d2 | (rw [kv_up_ne (by omega)]; exact d2)) a4 (nI k)) ?_
          refine kx_st 0 (pc' := 5) (L' := [some (.ref 65), some (.int (nI k)), some (.int 5)]) (st' := [.int (kx_b (0 ≤ nI k ∧ nI k < nI m))]) (h' := kv_wd g w) rfl ?_
          refine kx_be (t := 18) rfl rfl (fun (m5 : ¬ (0 ≤ nI k ∧ nI k < nI m)) => ?_) (fun (m5 : (0 ≤ nI k ∧ nI k < nI m)) => ?_)
          · exact absurd hv m5
          · refine kx_st 0 (pc' := 8) (L' := [some (.ref 65), some (.int (nI k)), some (.int 5)]) (st' := []) (h' := kv_wd g w) rfl ?_
            refine kx_st 3 (pc' := 12) (L' := [some (.ref 65), some (.int (nI k)), some (.int 5)]) (st' := [.int 9, .int 0, .int 5]) (h' := kv_wd g w) rfl ?_
            refine kx_call (z := 130) (as := [.int 5, .int 0, .int 9]) (rest := []) (v := some (.int (kx_b (0 ≤ (5 : Int32) ∧ (5 : Int32) ≤ 9)))) (h1 := kv_wd g w) rfl (ev_in (d := 898) 5 0 9) ?_
            refine kx_st 0 (pc' := 15) (L' := [some (.ref 65), some (.int (nI k)), some (.int 5)]) (st' := [.int (kx_b (0 ≤ (5 : Int32) ∧ (5 : Int32) ≤ 9))]) (h' := kv_wd g w) rfl ?_
            refine kx_bn (t := 25) rfl rfl (fun (m15 : (0 ≤ (5 : Int32) ∧ (5 : Int32) ≤ 9)) => ?_) (fun (m15 : ¬ (0 ≤ (5 : Int32) ∧ (5 : Int32) ≤ 9)) => ?_)
            · refine kx_st 2 (pc' := 28) (L' := [some (.ref 65), some (.int (nI k)), some (.int 5)]) (st' := [.int 9, .int 5]) (h' := kv_wd g w) rfl ?_
              refine kx_st 1 (pc' := 31) (L' := [some (.ref 65), some (.int (nI k)), some (.int 5)]) (st' := []) (h' := kv_wd g w) rfl ?_
              refine kx_st 3 (pc' := 34) (L' := [some (.ref 65), some (.int (nI k)), some (.int 5)]) (st' := [.int 5, .int (nI k), .ref 65]) (h' := kv_wd g w) rfl ?_
              refine kx_call (z := 136) (as := [.ref 65, .int (nI k), .int 5]) (rest := []) (v := some (.int (g 66 (26 + 9 * k + 5)))) (h1 := kv_wd g w) rfl (ev_its (d := 898) k 5 (by omega)) ?_
              refine kx_st 0 (pc' := 37) (L' := [some (.ref 65), some (.int (nI k)), some (.int 5)]) (st' := [.int (g 66 (26 + 9 * k + 5))]) (h' := kv_wd g w) rfl ?_
              refine kx_st 1 (pc' := 45) (L' := [some (.ref 65), some (.int (nI k)), some (.int 5)]) (st' := [.int (g 66 (26 + 9 * k + 5))]) (h' := kv_wd g w) rfl ?_
              refine kx_ret (v := some (.int (g 66 (26 + 9 * k + 5)))) rfl ?_
              exact ⟨congrArg (fun z => some (Value.int z)) (kf 5 (by omega)).symm, _, _, rfl, kx_Rl_skip lr g w i hR⟩
            · exact absurd hw m15
        · exact absurd hw h19
      · refine kx_two (by decide) (Nat.le_of_ble_eq_true rfl) (by decide) (Nat.le_of_ble_eq_true rfl) ?_
        refine kx_st 0 (pc' := 0) (L' := [some (.ref 0), some (.int (nI k)), some (.int 6), none]) (st' := []) (h' := kv_wd g w) rfl ?_
        refine kx_st 3 (pc' := 5) (L' := [some (.ref 0), some (.int (nI k)), some (.int 6), none]) (st' := [.int (nI k), .ref 1]) (h' := kv_wd g w) rfl ?_
        refine kx_call (z := 17) (as := [.ref 1, .int (nI k)]) (rest := []) (v := some (.ref (14 + k))) (h1 := kv_wd g w) rfl (ev_knotAt (d := 898) (g := g) q k hk8 hkn) ?_
        refine kx_st 0 (pc' := 8) (L' := [some (.ref 0), some (.int (nI k)), some (.int 6), none]) (st' := [.ref (14 + k)]) (h' := kv_wd g w) rfl ?_
        refine kx_st 2 (pc' := 10) (L' := [some (.ref 0), some (.int (nI k)), some (.int 6), some (.ref (14 + k))]) (st' := [.ref (14 + k)]) (h' := kv_wd g w) rfl ?_
        refine kx_st 1 (pc' := 13) (L' := [some (.ref 0), some (.int (nI k)), some (.int 6), some (.ref (14 + k))]) (st' := []) (h' := kv_wd g w) rfl ?_
        refine kx_st 2 (pc' := 16) (L' := [some (.ref 0), some (.int (nI k)), some (.int 6), some (.ref (14 + k))]) (st' := [.int 9, .int 6]) (h' := kv_wd g w) rfl ?_
        refine kx_call (z := 124) (as := [.int 6, .int 9]) (rest := []) (v := some (.int (kx_b (0 ≤ (6 : Int32) ∧ (6 : Int32) ≤ 9)))) (h1 := kv_wd g w) rfl (ev_within (d := 898) 6 9) ?_
        refine kx_st 0 (pc' := 19) (L' := [some (.ref 0), some (.int (nI k)), some (.int 6), some (.ref (14 + k))]) (st' := [.int (kx_b (0 ≤ (6 : Int32) ∧ (6 : Int32) ≤ 9))]) (h' := kv_wd g w) rfl ?_
        refine kx_bn (t := 28) rfl rfl (fun (h19 : (0 ≤ (6 : Int32) ∧ (6 : Int32) ≤ 9)) => ?_) (fun (h19 : ¬ (0 ≤ (6 : Int32) ∧ (6 : Int32) ≤ 9)) => ?_)
        · refine kx_st 2 (pc' := 31) (L' := [some (.ref 0), some (.int (nI k)), some (.int 6), some (.ref (14 + k))]) (st' := [.int 9, .int 6]) (h' := kv_wd g w) rfl ?_
          refine kx_st 1 (pc' := 51) (L' := [some (.ref 0), some (.int (nI k)), some (.int 6), some (.ref (14 + k))]) (st' := []) (h' := kv_wd g w) rfl ?_
          refine kx_st 2 (pc' := 53) (L' := [some (.ref 0), some (.int (nI k)), some (.int 6), some (.ref (14 + k))]) (st' := [.int 6, .ref (14 + k)]) (h' := kv_wd g w) rfl ?_
          refine kx_call (z := 30) (as := [.ref (14 + k), .int 6]) (rest := []) (v := some (.int (g (14 + k) 6))) (h1 := kv_wd g w) (kx_cv (b := 14 + k) (A := [.int 6]) (rest := []) rfl rfl rfl rfl (Nat.le_of_ble_eq_true rfl) (kv_kn_h hk8).1 ((kv_kn_h hk8).2 _ _)) (ev_fact_6 (d := 898) k hk8) ?_
          refine kx_st 0 (pc' := 56) (L' := [some (.ref 0), some (.int (nI k)), some (.int 6), some (.ref (14 + k))]) (st' := [.int (g (14 + k) 6)]) (h' := kv_wd g w) rfl ?_
          refine kx_ret (v := some (.int (g (14 + k) 6))) rfl ?_
          refine ⟨_, _, _, rfl, rfl, ?_⟩
          refine kx_st 0 (pc' := 0) (L' := [some (.ref 65), some (.int (nI k)), some (.int 6)]) (st' := []) (h' := kv_wd g w) rfl ?_
          refine kx_st 2 (pc' := 2) (L' := [some (.ref 65), some (.int (nI k)), some (.int 6)]) (st' := [.int (nI k), .ref 65]) (h' := kv_wd g w) rfl ?_
          refine kx_call (z := 139) (as := [.ref 65, .int (nI k)]) (rest := []) (v := some (.int (kx_b (0 ≤ nI k ∧ nI k < nI m)))) (h1 := kv_wd g w) rfl (ev_mKnotS (d := 897) (g := g) (s := m) (by first | exact d2 | (rw [kv_up_ne (by omega)]; exact d2)) a4 (nI k)) ?_
          refine kx_st 0 (pc' := 5) (L' := [some (.ref 65), some (.int (nI k)), some (.int 6)]) (st' := [.int (kx_b (0 ≤ nI k ∧ nI k < nI m))]) (h' := kv_wd g w) rfl ?_
          refine kx_be (t := 18) rfl rfl (fun (m5 : ¬ (0 ≤ nI k ∧ nI k < nI m)) => ?_) (fun (m5 : (0 ≤ nI k ∧ nI k < nI m)) => ?_)
          · exact absurd hv m5
          · refine kx_st 0 (pc' := 8) (L' := [some (.ref 65), some (.int (nI k)), some (.int 6)]) (st' := []) (h' := kv_wd g w) rfl ?_
            refine kx_st 3 (pc' := 12) (L' := [some (.ref 65), some (.int (nI k)), some (.int 6)]) (st' := [.int 9, .int 0, .int 6]) (h' := kv_wd g w) rfl ?_
            refine kx_call (z := 130) (as := [.int 6, .int 0, .int 9]) (rest := []) (v := some (.int (kx_b (0 ≤ (6 : Int32) ∧ (6 : Int32) ≤ 9)))) (h1 := kv_wd g w) rfl (ev_in (d := 898) 6 0 9) ?_
            refine kx_st 0 (pc' := 15) (L' := [some (.ref 65), some (.int (nI k)), some (.int 6)]) (st' := [.int (kx_b (0 ≤ (6 : Int32) ∧ (6 : Int32) ≤ 9))]) (h' := kv_wd g w) rfl ?_
            refine kx_bn (t := 25) rfl rfl (fun (m15 : (0 ≤ (6 : Int32) ∧ (6 : Int32) ≤ 9)) => ?_) (fun (m15 : ¬ (0 ≤ (6 : Int32) ∧ (6 : Int32) ≤ 9)) => ?_)
            · refine kx_st 2 (pc' := 28) (L' := [some (.ref 65), some (.int (nI k)), some (.int 6)]) (st' := [.int 9, .int 6]) (h' := kv_wd g w) rfl ?_
              refine kx_st 1 (pc' := 31) (L' := [some (.ref 65), some (.int (nI k)), some (.int 6)]) (st' := []) (h' := kv_wd g w) rfl ?_
              refine kx_st 3 (pc' := 34) (L' := [some (.ref 65), some (.int (nI k)), some (.int 6)]) (st' := [.int 6, .int (nI k), .ref 65]) (h' := kv_wd g w) rfl ?_
              refine kx_call (z := 136) (as := [.ref 65, .int (nI k), .int 6]) (rest := []) (v := some (.int (g 66 (26 + 9 * k + 6)))) (h1 := kv_wd g w) rfl (ev_its (d := 898) k 6 (by omega)) ?_
              refine kx_st 0 (pc' := 37) (L' := [some (.ref 65), some (.int (nI k)), some (.int 6)]) (st' := [.int (g 66 (26 + 9 * k + 6))]) (h' := kv_wd g w) rfl ?_
              refine kx_st 1 (pc' := 45) (L' := [some (.ref 65), some (.int (nI k)), some (.int 6)]) (st' := [.int (g 66 (26 + 9 * k + 6))]) (h' := kv_wd g w) rfl ?_
              refine kx_ret (v := some (.int (g 66 (26 + 9 * k + 6)))) rfl ?_
              exact ⟨congrArg (fun z => some (Value.int z)) (kf 6 (by omega)).symm, _, _, rfl, kx_Rl_skip lr g w i hR⟩
            · exact absurd hw m15
        · exact absurd hw h19
      · refine kx_two (by decide) (Nat.le_of_ble_eq_true rfl) (by decide) (Nat.le_of_ble_eq_true rfl) ?_
        refine kx_st 0 (pc' := 0) (L' := [some (.ref 0), some (.int (nI k)), some (.int 7), none]) (st' := []) (h' := kv_wd g w) rfl ?_
        refine kx_st 3 (pc' := 5) (L' := [some (.ref 0), some (.int (nI k)), some (.int 7), none]) (st' := [.int (nI k), .ref 1]) (h' := kv_wd g w) rfl ?_
        refine kx_call (z := 17) (as := [.ref 1, .int (nI k)]) (rest := []) (v := some (.ref (14 + k))) (h1 := kv_wd g w) rfl (ev_knotAt (d := 898) (g := g) q k hk8 hkn) ?_
        refine kx_st 0 (pc' := 8) (L' := [some (.ref 0), some (.int (nI k)), some (.int 7), none]) (st' := [.ref (14 + k)]) (h' := kv_wd g w) rfl ?_
        refine kx_st 2 (pc' := 10) (L' := [some (.ref 0), some (.int (nI k)), some (.int 7), some (.ref (14 + k))]) (st' := [.ref (14 + k)]) (h' := kv_wd g w) rfl ?_
        refine kx_st 1 (pc' := 13) (L' := [some (.ref 0), some (.int (nI k)), some (.int 7), some (.ref (14 + k))]) (st' := []) (h' := kv_wd g w) rfl ?_
        refine kx_st 2 (pc' := 16) (L' := [some (.ref 0), some (.int (nI k)), some (.int 7), some (.ref (14 + k))]) (st' := [.int 9, .int 7]) (h' := kv_wd g w) rfl ?_
        refine kx_call (z := 124) (as := [.int 7, .int 9]) (rest := []) (v := some (.int (kx_b (0 ≤ (7 : Int32) ∧ (7 : Int32) ≤ 9)))) (h1 := kv_wd g w) rfl (ev_within (d := 898) 7 9) ?_
        refine kx_st 0 (pc' := 19) (L' := [some (.ref 0), some (.int (nI k)), some (.int 7), some (.ref (14 + k))]) (st' := [.int (kx_b (0 ≤ (7 : Int32) ∧ (7 : Int32) ≤ 9))]) (h' := kv_wd g w) rfl ?_
        refine kx_bn (t := 28) rfl rfl (fun (h19 : (0 ≤ (7 : Int32) ∧ (7 : Int32) ≤ 9)) => ?_) (fun (h19 : ¬ (0 ≤ (7 : Int32) ∧ (7 : Int32) ≤ 9)) => ?_)
        · refine kx_st 2 (pc' := 31) (L' := [some (.ref 0), some (.int (nI k)), some (.int 7), some (.ref (14 + k))]) (st' := [.int 9, .int 7]) (h' := kv_wd g w) rfl ?_
          refine kx_st 1 (pc' := 51) (L' := [some (.ref 0), some (.int (nI k)), some (.int 7), some (.ref (14 + k))]) (st' := []) (h' := kv_wd g w) rfl ?_
          refine kx_st 2 (pc' := 53) (L' := [some (.ref 0), some (.int (nI k)), some (.int 7), some (.ref (14 + k))]) (st' := [.int 7, .ref (14 + k)]) (h' := kv_wd g w) rfl ?_
          refine kx_call (z := 30) (as := [.ref (14 + k), .int 7]) (rest := []) (v := some (.int (g (14 + k) 7))) (h1 := kv_wd g w) (kx_cv (b := 14 + k) (A := [.int 7]) (rest := []) rfl rfl rfl rfl (Nat.le_of_ble_eq_true rfl) (kv_kn_h hk8).1 ((kv_kn_h hk8).2 _ _)) (ev_fact_7 (d := 898) k hk8 (by rw [kf 7 (by omega)]; exact q8)) ?_
          refine kx_st 0 (pc' := 56) (L' := [some (.ref 0), some (.int (nI k)), some (.int 7), some (.ref (14 + k))]) (st' := [.int (g (14 + k) 7)]) (h' := kv_wd g w) rfl ?_
          refine kx_ret (v := some (.int (g (14 + k) 7))) rfl ?_
          refine ⟨_, _, _, rfl, rfl, ?_⟩
          refine kx_st 0 (pc' := 0) (L' := [some (.ref 65), some (.int (nI k)), some (.int 7)]) (st' := []) (h' := kv_wd g w) rfl ?_
          refine kx_st 2 (pc' := 2) (L' := [some (.ref 65), some (.int (nI k)), some (.int 7)]) (st' := [.int (nI k), .ref 65]) (h' := kv_wd g w) rfl ?_
          refine kx_call (z := 139) (as := [.ref 65, .int (nI k)]) (rest := []) (v := some (.int (kx_b (0 ≤ nI k ∧ nI k < nI m)))) (h1 := kv_wd g w) rfl (ev_mKnotS (d := 897) (g := g) (s := m) (by first | exact d2 | (rw [kv_up_ne (by omega)]; exact d2)) a4 (nI k)) ?_
          refine kx_st 0 (pc' := 5) (L' := [some (.ref 65), some (.int (nI k)), some (.int 7)]) (st' := [.int (kx_b (0 ≤ nI k ∧ nI k < nI m))]) (h' := kv_wd g w) rfl ?_
          refine kx_be (t := 18) rfl rfl (fun (m5 : ¬ (0 ≤ nI k ∧ nI k < nI m)) => ?_) (fun (m5 : (0 ≤ nI k ∧ nI k < nI m)) => ?_)
          · exact absurd hv m5
          · refine kx_st 0 (pc' := 8) (L' := [some (.ref 65), some (.int (nI k)), some (.int 7)]) (st' := []) (h' := kv_wd g w) rfl ?_
            refine kx_st 3 (pc' := 12) (L' := [some (.ref 65), some (.int (nI k)), some (.int 7)]) (st' := [.int 9, .int 0, .int 7]) (h' := kv_wd g w) rfl ?_
            refine kx_call (z := 130) (as := [.int 7, .int 0, .int 9]) (rest := []) (v := some (.int (kx_b (0 ≤ (7 : Int32) ∧ (7 : Int32) ≤ 9)))) (h1 := kv_wd g w) rfl (ev_in (d := 898) 7 0 9) ?_
            refine kx_st 0 (pc' := 15) (L' := [some (.ref 65), some (.int (nI k)), some (.int 7)]) (st' := [.int (kx_b (0 ≤ (7 : Int32) ∧ (7 : Int32) ≤ 9))]) (h' := kv_wd g w) rfl ?_
            refine kx_bn (t := 25) rfl rfl (fun (m15 : (0 ≤ (7 : Int32) ∧ (7 : Int32) ≤ 9)) => ?_) (fun (m15 : ¬ (0 ≤ (7 : Int32) ∧ (7 : Int32) ≤ 9)) => ?_)
            · refine kx_st 2 (pc' := 28) (L' := [some (.ref 65), some (.int (nI k)), some (.int 7)]) (st' := [.int 9, .int 7]) (h' := kv_wd g w) rfl ?_
              refine kx_st 1 (pc' := 31) (L' := [some (.ref 65), some (.int (nI k)), some (.int 7)]) (st' := []) (h' := kv_wd g w) rfl ?_
              refine kx_st 3 (pc' := 34) (L' := [some (.ref 65), some (.int (nI k)), some (.int 7)]) (st' := [.int 7, .int (nI k), .ref 65]) (h' := kv_wd g w) rfl ?_
              refine kx_call (z := 136) (as := [.ref 65, .int (nI k), .int 7]) (rest := []) (v := some (.int (g 66 (26 + 9 * k + 7)))) (h1 := kv_wd g w) rfl (ev_its (d := 898) k 7 (by omega)) ?_
              refine kx_st 0 (pc' := 37) (L' := [some (.ref 65), some (.int (nI k)), some (.int 7)]) (st' := [.int (g 66 (26 + 9 * k + 7))]) (h' := kv_wd g w) rfl ?_
              refine kx_st 1 (pc' := 45) (L' := [some (.ref 65), some (.int (nI k)), some (.int 7)]) (st' := [.int (g 66 (26 + 9 * k + 7))]) (h' := kv_wd g w) rfl ?_
              refine kx_ret (v := some (.int (g 66 (26 + 9 * k + 7)))) rfl ?_
              exact ⟨congrArg (fun z => some (Value.int z)) (kf 7 (by omega)).symm, _, _, rfl, kx_Rl_skip lr g w i hR⟩
            · exact absurd hw m15
        · exact absurd hw h19
      · refine kx_two (by decide) (Nat.le_of_ble_eq_true rfl) (by decide) (Nat.le_of_ble_eq_true rfl) ?_
        refine kx_st 0 (pc' := 0) (L' := [some (.ref 0), some (.int (nI k)), some (.int 8), none]) (st' := []) (h' := kv_wd g w) rfl ?_
        refine kx_st 3 (pc' := 5) (L' := [some (.ref 0), some (.int (nI k)), some (.int 8), none]) (st' := [.int (nI k), .ref 1]) (h' := kv_wd g w) rfl ?_
        refine kx_call (z := 17) (as := [.ref 1, .int (nI k)]) (rest := []) (v := some (.ref (14 + k))) (h1 := kv_wd g w) rfl (ev_knotAt (d := 898) (g := g) q k hk8 hkn) ?_
        refine kx_st 0 (pc' := 8) (L' := [some (.ref 0), some (.int (nI k)), some (.int 8), none]) (st' := [.ref (14 + k)]) (h' := kv_wd g w) rfl ?_
        refine kx_st 2 (pc' := 10) (L' := [some (.ref 0), some (.int (nI k)), some (.int 8), some (.ref (14 + k))]) (st' := [.ref (14 + k)]) (h' := kv_wd g w) rfl ?_
        refine kx_st 1 (pc' := 13) (L' := [some (.ref 0), some (.int (nI k)), some (.int 8), some (.ref (14 + k))]) (st' := []) (h' := kv_wd g w) rfl ?_
        refine kx_st 2 (pc' := 16) (L' := [some (.ref 0), some (.int (nI k)), some (.int 8), some (.ref (14 + k))]) (st' := [.int 9, .int 8]) (h' := kv_wd g w) rfl ?_
        refine kx_call (z := 124) (as := [.int 8, .int 9]) (rest := []) (v := some (.int (kx_b (0 ≤ (8 : Int32) ∧ (8 : Int32) ≤ 9)))) (h1 := kv_wd g w) rfl (ev_within (d := 898) 8 9) ?_
        refine kx_st 0 (pc' := 19) (L' := [some (.ref 0), some (.int (nI k)), some (.int 8), some (.ref (14 + k))]) (st' := [.int (kx_b (0 ≤ (8 : Int32) ∧ (8 : Int32) ≤ 9))]) (h' := kv_wd g w) rfl ?_
        refine kx_bn (t := 28) rfl rfl (fun (h19 : (0 ≤ (8 : Int32) ∧ (8 : Int32) ≤ 9)) => ?_) (fun (h19 : ¬ (0 ≤ (8 : Int32) ∧ (8 : Int32) ≤ 9)) => ?_)
        · refine kx_st 2 (pc' := 31) (L' := [some (.ref 0), some (.int (nI k)), some (.int 8), some (.ref (14 + k))]) (st' := [.int 9, .int 8]) (h' := kv_wd g w) rfl ?_
          refine kx_st 1 (pc' := 51) (L' := [some (.ref 0), some (.int (nI k)), some (.int 8), some (.ref (14 + k))]) (st' := []) (h' := kv_wd g w) rfl ?_
          refine kx_st 2 (pc' := 53) (L' := [some (.ref 0), some (.int (nI k)), some (.int 8), some (.ref (14 + k))]) (st' := [.int 8, .ref (14 + k)]) (h' := kv_wd g w) rfl ?_
          refine kx_call (z := 30) (as := [.ref (14 + k), .int 8]) (rest := []) (v := some (.int (g (14 + k) 8))) (h1 := kv_wd g w) (kx_cv (b := 14 + k) (A := [.int 8]) (rest := []) rfl rfl rfl rfl (Nat.le_of_ble_eq_true rfl) (kv_kn_h hk8).1 ((kv_kn_h hk8).2 _ _)) (ev_fact_8 (d := 898) k hk8) ?_
          refine kx_st 0 (pc' := 56) (L' := [some (.ref 0), some (.int (nI k)), some (.int 8), some (.ref (14 + k))]) (st' := [.int (g (14 + k) 8)]) (h' := kv_wd g w) rfl ?_
          refine kx_ret (v := some (.int (g (14 + k) 8))) rfl ?_
          refine ⟨_, _, _, rfl, rfl, ?_⟩
          refine kx_st 0 (pc' := 0) (L' := [some (.ref 65), some (.int (nI k)), some (.int 8)]) (st' := []) (h' := kv_wd g w) rfl ?_
          refine kx_st 2 (pc' := 2) (L' := [some (.ref 65), some (.int (nI k)), some (.int 8)]) (st' := [.int (nI k), .ref 65]) (h' := kv_wd g w) rfl ?_
          refine kx_call (z := 139) (as := [.ref 65, .int (nI k)]) (rest := []) (v := some (.int (kx_b (0 ≤ nI k ∧ nI k < nI m)))) (h1 := kv_wd g w) rfl (ev_mKnotS (d := 897) (g := g) (s := m) (by first | exact d2 | (rw [kv_up_ne (by omega)]; exact d2)) a4 (nI k)) ?_
          refine kx_st 0 (pc' := 5) (L' := [some (.ref 65), some (.int (nI k)), some (.int 8)]) (st' := [.int (kx_b (0 ≤ nI k ∧ nI k < nI m))]) (h' := kv_wd g w) rfl ?_
          refine kx_be (t := 18) rfl rfl (fun (m5 : ¬ (0 ≤ nI k ∧ nI k < nI m)) => ?_) (fun (m5 : (0 ≤ nI k ∧ nI k < nI m)) => ?_)
          · exact absurd hv m5
          · refine kx_st 0 (pc' := 8) (L' := [some (.ref 65), some (.int (nI k)), some (.int 8)]) (st' := []) (h' := kv_wd g w) rfl ?_
            refine kx_st 3 (pc' := 12) (L' := [some (.ref 65), some (.int (nI k)), some (.int 8)]) (st' := [.int 9, .int 0, .int 8]) (h' := kv_wd g w) rfl ?_
            refine kx_call (z := 130) (as := [.int 8, .int 0, .int 9]) (rest := []) (v := some (.int (kx_b (0 ≤ (8 : Int32) ∧ (8 : Int32) ≤ 9)))) (h1 := kv_wd g w) rfl (ev_in (d := 898) 8 0 9) ?_
            refine kx_st 0 (pc' := 15) (L' := [some (.ref 65), some (.int (nI k)), some (.int 8)]) (st' := [.int (kx_b (0 ≤ (8 : Int32) ∧ (8 : Int32) ≤ 9))]) (h' := kv_wd g w) rfl ?_
            refine kx_bn (t := 25) rfl rfl (fun (m15 : (0 ≤ (8 : Int32) ∧ (8 : Int32) ≤ 9)) => ?_) (fun (m15 : ¬ (0 ≤ (8 : Int32) ∧ (8 : Int32) ≤ 9)) => ?_)
            · refine kx_st 2 (pc' := 28) (L' := [some (.ref 65), some (.int (nI k)), some (.int 8)]) (st' := [.int 9, .int 8]) (h' := kv_wd g w) rfl ?_
              refine kx_st 1 (pc' := 31) (L' := [some (.ref 65), some (.int (nI k)), some (.int 8)]) (st' := []) (h' := kv_wd g w) rfl ?_
              refine kx_st 3 (pc' := 34) (L' := [some (.ref 65), some (.int (nI k)), some (.int 8)]) (st' := [.int 8, .int (nI k), .ref 65]) (h' := kv_wd g w) rfl ?_
              refine kx_call (z := 136) (as := [.ref 65, .int (nI k), .int 8]) (rest := []) (v := some (.int (g 66 (26 + 9 * k + 8)))) (h1 := kv_wd g w) rfl (ev_its (d := 898) k 8 (by omega)) ?_
              refine kx_st 0 (pc' := 37) (L' := [some (.ref 65), some (.int (nI k)), some (.int 8)]) (st' := [.int (g 66 (26 + 9 * k + 8))]) (h' := kv_wd g w) rfl ?_
              refine kx_st 1 (pc' := 45) (L' := [some (.ref 65), some (.int (nI k)), some (.int 8)]) (st' := [.int (g 66 (26 + 9 * k + 8))]) (h' := kv_wd g w) rfl ?_
              refine kx_ret (v := some (.int (g 66 (26 + 9 * k + 8)))) rfl ?_
              exact ⟨congrArg (fun z => some (Value.int z)) (kf 8 (by omega)).symm, _, _, rfl, kx_Rl_skip lr g w i hR⟩
            · exact absurd hw m15
        · exact absurd hw h19
      · refine kx_two (by decide) (Nat.le_of_ble_eq_true rfl) (by decide) (Nat.le_of_ble_eq_true rfl) ?_
        refine kx_st 0 (pc' := 0) (L' := [some (.ref 0), some (.int (nI k)), some (.int 9), none]) (st' := []) (h' := kv_wd g w) rfl ?_
        refine kx_st 3 (pc' := 5) (L' := [some (.ref 0), some (.int (nI k)), some (.int 9), none]) (st' := [.int (nI k), .ref 1]) (h' := kv_wd g w) rfl ?_
        refine kx_call (z := 17) (as := [.ref 1, .int (nI k)]) (rest := []) (v := some (.ref (14 + k))) (h1 := kv_wd g w) rfl (ev_knotAt (d := 898) (g := g) q k hk8 hkn) ?_
        refine kx_st 0 (pc' := 8) (L' := [some (.ref 0), some (.int (nI k)), some (.int 9), none]) (st' := [.ref (14 + k)]) (h' := kv_wd g w) rfl ?_
        refine kx_st 2 (pc' := 10) (L' := [some (.ref 0), some (.int (nI k)), some (.int 9), some (.ref (14 + k))]) (st' := [.ref (14 + k)]) (h' := kv_wd g w) rfl ?_
        refine kx_st 1 (pc' := 13) (L' := [some (.ref 0), some (.int (nI k)), some (.int 9), some (.ref (14 + k))]) (st' := []) (h' := kv_wd g w) rfl ?_
        refine kx_st 2 (pc' := 16) (L' := [some (.ref 0), some (.int (nI k)), some (.int 9), some (.ref (14 + k))]) (st' := [.int 9, .int 9]) (h' := kv_wd g w) rfl ?_
        refine kx_call (z := 124) (as := [.int 9, .int 9]) (rest := []) (v := some (.int (kx_b (0 ≤ (9 : Int32) ∧ (9 : Int32) ≤ 9)))) (h1 := kv_wd g w) rfl (ev_within (d := 898) 9 9) ?_
        refine kx_st 0 (pc' := 19) (L' := [some (.ref 0), some (.int (nI k)), some (.int 9), some (.ref (14 + k))]) (st' := [.int (kx_b (0 ≤ (9 : Int32) ∧ (9 : Int32) ≤ 9))]) (h' := kv_wd g w) rfl ?_
        refine kx_bn (t := 28) rfl rfl (fun (h19 : (0 ≤ (9 : Int32) ∧ (9 : Int32) ≤ 9)) => ?_) (fun (h19 : ¬ (0 ≤ (9 : Int32) ∧ (9 : Int32) ≤ 9)) => ?_)
        · refine kx_st 2 (pc' := 31) (L' := [some (.ref 0), some (.int (nI k)), some (.int 9), some (.ref (14 + k))]) (st' := [.int 9, .int 9]) (h' := kv_wd g w) rfl ?_
          refine kx_st 1 (pc' := 34) (L' := [some (.ref 0), some (.int (nI k)), some (.int 9), some (.ref (14 + k))]) (st' := []) (h' := kv_wd g w) rfl ?_
          refine kx_st 5 (pc' := 45) (L' := [some (.ref 0), some (.int (nI k)), some (.int 9), some (.ref (14 + k))]) (st' := [.int (g 2 2), .ref (14 + k)]) (h' := kv_wd g w) rfl ?_
          obtain ⟨x, hx, hxm⟩ := q3
          refine kx_call (z := 32) (as := [.ref (14 + k), .int (g 2 2)]) (rest := []) (v := some (.int (kx_ez (g (14 + k) 0) (g (14 + k) 1) (g (14 + k) 8) (g (14 + k) 5) (g 2 2)))) (h1 := kv_wd g w) (kx_cv (b := 14 + k) (A := [.int (g 2 2)]) (rest := []) rfl rfl rfl rfl (Nat.le_of_ble_eq_true rfl) (kv_kn_h hk8).1 ((kv_kn_h hk8).2 _ _)) (ev_ease (d := 898) k hk8 x hx (by rw [kf 1 (by omega)]; exact hxm) (g 2 2)) ?_
          refine kx_st 0 (pc' := 48) (L' := [some (.ref 0), some (.int (nI k)), some (.int 9), some (.ref (14 + k))]) (st' := [.int (kx_ez (g (14 + k) 0) (g (14 + k) 1) (g (14 + k) 8) (g (14 + k) 5) (g 2 2))]) (h' := kv_wd g w) rfl ?_
          refine kx_st 1 (pc' := 56) (L' := [some (.ref 0), some (.int (nI k)), some (.int 9), some (.ref (14 + k))]) (st' := [.int (kx_ez (g (14 + k) 0) (g (14 + k) 1) (g (14 + k) 8) (g (14 + k) 5) (g 2 2))]) (h' := kv_wd g w) rfl ?_
          refine kx_ret (v := some (.int (kx_ez (g (14 + k) 0) (g (14 + k) 1) (g (14 + k) 8) (g (14 + k) 5) (g 2 2)))) rfl ?_
          refine ⟨_, _, _, rfl, rfl, ?_⟩
          refine kx_st 0 (pc' := 0) (L' := [some (.ref 65), some (.int (nI k)), some (.int 9)]) (st' := []) (h' := kv_wd g w) rfl ?_
          refine kx_st 2 (pc' := 2) (L' := [some (.ref 65), some (.int (nI k)), some (.int 9)]) (st' := [.int (nI k), .ref 65]) (h' := kv_wd g w) rfl ?_
          refine kx_call (z := 139) (as := [.ref 65, .int (nI k)]) (rest := []) (v := some (.int (kx_b (0 ≤ nI k ∧ nI k < nI m)))) (h1 := kv_wd g w) rfl (ev_mKnotS (d := 897) (g := g) (s := m) (by first | exact d2 | (rw [kv_up_ne (by omega)]; exact d2)) a4 (nI k)) ?_
          refine kx_st 0 (pc' := 5) (L' := [some (.ref 65), some (.int (nI k)), some (.int 9)]) (st' := [.int (kx_b (0 ≤ nI k ∧ nI k < nI m))]) (h' := kv_wd g w) rfl ?_
          refine kx_be (t := 18) rfl rfl (fun (m5 : ¬ (0 ≤ nI k ∧ nI k < nI m)) => ?_) (fun (m5 : (0 ≤ nI k ∧ nI k < nI m)) => ?_)
          · exact absurd hv m5
          · refine kx_st 0 (pc' := 8) (L' := [some (.ref 65), some (.int (nI k)), some (.int 9)]) (st' := []) (h' := kv_wd g w) rfl ?_
            refine kx_st 3 (pc' := 12) (L' := [some (.ref 65), some (.int (nI k)), some (.int 9)]) (st' := [.int 9, .int 0, .int 9]) (h' := kv_wd g w) rfl ?_
            refine kx_call (z := 130) (as := [.int 9, .int 0, .int 9]) (rest := []) (v := some (.int (kx_b (0 ≤ (9 : Int32) ∧ (9 : Int32) ≤ 9)))) (h1 := kv_wd g w) rfl (ev_in (d := 898) 9 0 9) ?_
            refine kx_st 0 (pc' := 15) (L' := [some (.ref 65), some (.int (nI k)), some (.int 9)]) (st' := [.int (kx_b (0 ≤ (9 : Int32) ∧ (9 : Int32) ≤ 9))]) (h' := kv_wd g w) rfl ?_
            refine kx_bn (t := 25) rfl rfl (fun (m15 : (0 ≤ (9 : Int32) ∧ (9 : Int32) ≤ 9)) => ?_) (fun (m15 : ¬ (0 ≤ (9 : Int32) ∧ (9 : Int32) ≤ 9)) => ?_)
            · refine kx_st 2 (pc' := 28) (L' := [some (.ref 65), some (.int (nI k)), some (.int 9)]) (st' := [.int 9, .int 9]) (h' := kv_wd g w) rfl ?_
              refine kx_st 1 (pc' := 40) (L' := [some (.ref 65), some (.int (nI k)), some (.int 9)]) (st' := []) (h' := kv_wd g w) rfl ?_
              refine kx_st 2 (pc' := 42) (L' := [some (.ref 65), some (.int (nI k)), some (.int 9)]) (st' := [.int (nI k), .ref 65]) (h' := kv_wd g w) rfl ?_
              refine kx_call (z := 171) (as := [.ref 65, .int (nI k)]) (rest := []) (v := some (.int (kx_ez (g 66 (26 + 9 * k + 0)) (g 66 (26 + 9 * k + 1)) (g 66 (26 + 9 * k + 8)) (g 66 (26 + 9 * k + 5)) (g 66 0)))) (h1 := kv_wd g w) rfl (ev_mease (d := 897) k hk8) ?_
              refine kx_st 0 (pc' := 45) (L' := [some (.ref 65), some (.int (nI k)), some (.int 9)]) (st' := [.int (kx_ez (g 66 (26 + 9 * k + 0)) (g 66 (26 + 9 * k + 1)) (g 66 (26 + 9 * k + 8)) (g 66 (26 + 9 * k + 5)) (g 66 0))]) (h' := kv_wd g w) rfl ?_
              refine kx_ret (v := some (.int (kx_ez (g 66 (26 + 9 * k + 0)) (g 66 (26 + 9 * k + 1)) (g 66 (26 + 9 * k + 8)) (g 66 (26 + 9 * k + 5)) (g 66 0)))) rfl ?_
              exact ⟨by rw [kf 0 (by omega), kf 1 (by omega), kf 8 (by omega), kf 5 (by omega), show g 2 2 = g 66 0 from by obtain ⟨y, -, y1, y2⟩ := H3; exact y1.trans y2.symm], _, _, rfl, kx_Rl_skip lr g w i hR⟩
            · exact absurd hw m15
        · exact absurd hw h19
    · refine kx_two (by decide) (Nat.le_of_ble_eq_true rfl) (by decide) (Nat.le_of_ble_eq_true rfl) ?_
      refine kx_st 0 (pc' := 0) (L' := [some (.ref 0), some (.int (nI k)), some (.int b), none]) (st' := []) (h' := kv_wd g w) rfl ?_
      refine kx_st 3 (pc' := 5) (L' := [some (.ref 0), some (.int (nI k)), some (.int b), none]) (st' := [.int (nI k), .ref 1]) (h' := kv_wd g w) rfl ?_
      refine kx_call (z := 17) (as := [.ref 1, .int (nI k)]) (rest := []) (v := some (.ref (14 + k))) (h1 := kv_wd g w) rfl (ev_knotAt (d := 898) (g := g) q k hk8 hkn) ?_
      refine kx_st 0 (pc' := 8) (L' := [some (.ref 0), some (.int (nI k)), some (.int b), none]) (st' := [.ref (14 + k)]) (h' := kv_wd g w) rfl ?_
      refine kx_st 2 (pc' := 10) (L' := [some (.ref 0), some (.int (nI k)), some (.int b), some (.ref (14 + k))]) (st' := [.ref (14 + k)]) (h' := kv_wd g w) rfl ?_
      refine kx_st 1 (pc' := 13) (L' := [some (.ref 0), some (.int (nI k)), some (.int b), some (.ref (14 + k))]) (st' := []) (h' := kv_wd g w) rfl ?_
      refine kx_st 2 (pc' := 16) (L' := [some (.ref 0), some (.int (nI k)), some (.int b), some (.ref (14 + k))]) (st' := [.int 9, .int b]) (h' := kv_wd g w) rfl ?_
      refine kx_call (z := 124) (as := [.int b, .int 9]) (rest := []) (v := some (.int (kx_b (0 ≤ b ∧ b ≤ 9)))) (h1 := kv_wd g w) rfl (ev_within (d := 898) b 9) ?_
      refine kx_st 0 (pc' := 19) (L' := [some (.ref 0), some (.int (nI k)), some (.int b), some (.ref (14 + k))]) (st' := [.int (kx_b (0 ≤ b ∧ b ≤ 9))]) (h' := kv_wd g w) rfl ?_
      refine kx_bn (t := 28) rfl rfl (fun (h19 : (0 ≤ b ∧ b ≤ 9)) => ?_) (fun (h19 : ¬ (0 ≤ b ∧ b ≤ 9)) => ?_)
      · exact absurd h19 hw
      · refine kx_st 0 (pc' := 22) (L' := [some (.ref 0), some (.int (nI k)), some (.int b), some (.ref (14 + k))]) (st' := []) (h' := kv_wd g w) rfl ?_
        refine kx_st 2 (pc' := 24) (L' := [some (.ref 0), some (.int (nI k)), some (.int b), some (.ref (14 + k))]) (st' := [.int 1, .ref 0]) (h' := kv_wd g w) rfl ?_
        refine kx_call (z := 123) (as := [.ref 0, .int 1]) (rest := []) (v := some (.int (-1000000000 - nI 1))) (h1 := kv_wd (kv_up g 64 1 (g 64 1 + 1)) w) rfl (ev_error (d := 898) 1 (by decide) (by decide)) ?_
        refine kx_st 0 (pc' := 27) (L' := [some (.ref 0), some (.int (nI k)), some (.int b), some (.ref (14 + k))]) (st' := [.int (-1000000000 - nI 1)]) (h' := kv_wd (kv_up g 64 1 (g 64 1 + 1)) w) rfl ?_
        refine kx_ret (v := some (.int (-1000000000 - nI 1))) rfl ?_
        refine ⟨_, _, _, rfl, rfl, ?_⟩
        refine kx_st 0 (pc' := 0) (L' := [some (.ref 65), some (.int (nI k)), some (.int b)]) (st' := []) (h' := kv_wd (kv_up g 64 1 (g 64 1 + 1)) w) rfl ?_
        refine kx_st 2 (pc' := 2) (L' := [some (.ref 65), some (.int (nI k)), some (.int b)]) (st' := [.int (nI k), .ref 65]) (h' := kv_wd (kv_up g 64 1 (g 64 1 + 1)) w) rfl ?_
        refine kx_call (z := 139) (as := [.ref 65, .int (nI k)]) (rest := []) (v := some (.int (kx_b (0 ≤ nI k ∧ nI k < nI m)))) (h1 := kv_wd (kv_up g 64 1 (g 64 1 + 1)) w) rfl (ev_mKnotS (d := 897) (g := kv_up g 64 1 (g 64 1 + 1)) (s := m) (by first | exact d2 | (rw [kv_up_ne (by omega)]; exact d2)) a4 (nI k)) ?_
        refine kx_st 0 (pc' := 5) (L' := [some (.ref 65), some (.int (nI k)), some (.int b)]) (st' := [.int (kx_b (0 ≤ nI k ∧ nI k < nI m))]) (h' := kv_wd (kv_up g 64 1 (g 64 1 + 1)) w) rfl ?_
        refine kx_be (t := 18) rfl rfl (fun (m5 : ¬ (0 ≤ nI k ∧ nI k < nI m)) => ?_) (fun (m5 : (0 ≤ nI k ∧ nI k < nI m)) => ?_)
        · exact absurd hv m5
        · refine kx_st 0 (pc' := 8) (L' := [some (.ref 65), some (.int (nI k)), some (.int b)]) (st' := []) (h' := kv_wd (kv_up g 64 1 (g 64 1 + 1)) w) rfl ?_
          refine kx_st 3 (pc' := 12) (L' := [some (.ref 65), some (.int (nI k)), some (.int b)]) (st' := [.int 9, .int 0, .int b]) (h' := kv_wd (kv_up g 64 1 (g 64 1 + 1)) w) rfl ?_
          refine kx_call (z := 130) (as := [.int b, .int 0, .int 9]) (rest := []) (v := some (.int (kx_b (0 ≤ b ∧ b ≤ 9)))) (h1 := kv_wd (kv_up g 64 1 (g 64 1 + 1)) w) rfl (ev_in (d := 898) b 0 9) ?_
          refine kx_st 0 (pc' := 15) (L' := [some (.ref 65), some (.int (nI k)), some (.int b)]) (st' := [.int (kx_b (0 ≤ b ∧ b ≤ 9))]) (h' := kv_wd (kv_up g 64 1 (g 64 1 + 1)) w) rfl ?_
          refine kx_bn (t := 25) rfl rfl (fun (m15 : (0 ≤ b ∧ b ≤ 9)) => ?_) (fun (m15 : ¬ (0 ≤ b ∧ b ≤ 9)) => ?_)
          · exact absurd m15 hw
          · refine kx_st 0 (pc' := 18) (L' := [some (.ref 65), some (.int (nI k)), some (.int b)]) (st' := []) (h' := kv_wd (kv_up g 64 1 (g 64 1 + 1)) w) rfl ?_
            refine kx_st 2 (pc' := 21) (L' := [some (.ref 65), some (.int (nI k)), some (.int b)]) (st' := [.int (-1000000001), .ref 65]) (h' := kv_wd (kv_up g 64 1 (g 64 1 + 1)) w) rfl ?_
            refine kx_call (z := 131) (as := [.ref 65, .int (-1000000001)]) (rest := []) (v := some (.int (-1000000001))) (h1 := kv_wd (kv_up (kv_up g 64 1 (g 64 1 + 1)) 70 1 ((kv_up g 64 1 (g 64 1 + 1)) 70 1 + 1)) w) rfl (ev_errs (d := 898) (-1000000001) 1 (by decide) (by decide)) ?_
            refine kx_st 0 (pc' := 24) (L' := [some (.ref 65), some (.int (nI k)), some (.int b)]) (st' := [.int (-1000000001)]) (h' := kv_wd (kv_up (kv_up g 64 1 (g 64 1 + 1)) 70 1 ((kv_up g 64 1 (g 64 1 + 1)) 70 1 + 1)) w) rfl ?_
            refine kx_ret (v := some (.int (-1000000001))) rfl ?_
            exact ⟨rfl, _, _, rfl, kx_Rl_e hR⟩
  · refine kx_two (by decide) (Nat.le_of_ble_eq_true rfl) (by decide) (Nat.le_of_ble_eq_true rfl) ?_
    refine kx_st 0 (pc' := 0) (L' := [some (.ref 0), some (.int a), some (.int b), none]) (st' := []) (h' := kv_wd g w) rfl ?_
    refine kx_st 3 (pc' := 5) (L' := [some (.ref 0), some (.int a), some (.int b), none]) (st' := [.int a, .ref 1]) (h' := kv_wd g w) rfl ?_
    refine kx_call (z := 17) (as := [.ref 1, .int a]) (rest := []) (v := some (.null)) (h1 := kv_wd g w) rfl (ev_knotAt_n (d := 898) (g := g) a (by rw [d1]; exact hv)) ?_
    refine kx_st 0 (pc' := 8) (L' := [some (.ref 0), some (.int a), some (.int b), none]) (st' := [.null]) (h' := kv_wd g w) rfl ?_
    refine kx_st 2 (pc' := 10) (L' := [some (.ref 0), some (.int a), some (.int b), some (.null)]) (st' := [.null]) (h' := kv_wd g w) rfl ?_
    refine kx_st 1 (pc' := 22) (L' := [some (.ref 0), some (.int a), some (.int b), some (.null)]) (st' := []) (h' := kv_wd g w) rfl ?_
    refine kx_st 2 (pc' := 24) (L' := [some (.ref 0), some (.int a), some (.int b), some (.null)]) (st' := [.int 1, .ref 0]) (h' := kv_wd g w) rfl ?_
    refine kx_call (z := 123) (as := [.ref 0, .int 1]) (rest := []) (v := some (.int (-1000000000 - nI 1))) (h1 := kv_wd (kv_up g 64 1 (g 64 1 + 1)) w) rfl (ev_error (d := 898) 1 (by decide) (by decide)) ?_
    refine kx_st 0 (pc' := 27) (L' := [some (.ref 0), some (.int a), some (.int b), some (.null)]) (st' := [.int (-1000000000 - nI 1)]) (h' := kv_wd (kv_up g 64 1 (g 64 1 + 1)) w) rfl ?_
    refine kx_ret (v := some (.int (-1000000000 - nI 1))) rfl ?_
    refine ⟨_, _, _, rfl, rfl, ?_⟩
    refine kx_st 0 (pc' := 0) (L' := [some (.ref 65), some (.int a), some (.int b)]) (st' := []) (h' := kv_wd (kv_up g 64 1 (g 64 1 + 1)) w) rfl ?_
    refine kx_st 2 (pc' := 2) (L' := [some (.ref 65), some (.int a), some (.int b)]) (st' := [.int a, .ref 65]) (h' := kv_wd (kv_up g 64 1 (g 64 1 + 1)) w) rfl ?_
    refine kx_call (z := 139) (as := [.ref 65, .int a]) (rest := []) (v := some (.int (kx_b (0 ≤ a ∧ a < nI m)))) (h1 := kv_wd (kv_up g 64 1 (g 64 1 + 1)) w) rfl (ev_mKnotS (d := 897) (g := kv_up g 64 1 (g 64 1 + 1)) (s := m) (by first | exact d2 | (rw [kv_up_ne (by omega)]; exact d2)) a4 a) ?_
    refine kx_st 0 (pc' := 5) (L' := [some (.ref 65), some (.int a), some (.int b)]) (st' := [.int (kx_b (0 ≤ a ∧ a < nI m))]) (h' := kv_wd (kv_up g 64 1 (g 64 1 + 1)) w) rfl ?_
    refine kx_be (t := 18) rfl rfl (fun (m5 : ¬ (0 ≤ a ∧ a < nI m)) => ?_) (fun (m5 : (0 ≤ a ∧ a < nI m)) => ?_)
    · refine kx_st 2 (pc' := 21) (L' := [some (.ref 65), some (.int a), some (.int b)]) (st' := [.int (-1000000001), .ref 65]) (h' := kv_wd (kv_up g 64 1 (g 64 1 + 1)) w) rfl ?_
      refine kx_call (z := 131) (as := [.ref 65, .int (-1000000001)]) (rest := []) (v := some (.int (-1000000001))) (h1 := kv_wd (kv_up (kv_up g 64 1 (g 64 1 + 1)) 70 1 ((kv_up g 64 1 (g 64 1 + 1)) 70 1 + 1)) w) rfl (ev_errs (d := 898) (-1000000001) 1 (by decide) (by decide)) ?_
      refine kx_st 0 (pc' := 24) (L' := [some (.ref 65), some (.int a), some (.int b)]) (st' := [.int (-1000000001)]) (h' := kv_wd (kv_up (kv_up g 64 1 (g 64 1 + 1)) 70 1 ((kv_up g 64 1 (g 64 1 + 1)) 70 1 + 1)) w) rfl ?_
      refine kx_ret (v := some (.int (-1000000001))) rfl ?_
      exact ⟨rfl, _, _, rfl, kx_Rl_e hR⟩
    · exact absurd m5 hv
set_option maxRecDepth 100000 in
theorem pr_change (a b c : Int32) : kx_ok2 E (kx_Rl lr) 87 151 [.int a, .int b, .int c] := by
  intro g w i hR hi
  have hR0 := hR
  obtain ⟨q, cu, ⟨H1, H2, H3, H4, H5, hz, l0, l1⟩, im, sh, tr, er⟩ := id hR
  obtain ⟨s, t, m, ⟨a1, a2, a3, a4⟩, ⟨b1, b2⟩, ⟨c1, c2⟩, ⟨d1, d2⟩, hk⟩ := id H1
  by_cases hv : 0 ≤ a ∧ a < nI m
  · obtain ⟨k, hkm, rfl⟩ := kx_nIlt hv.1 hv.2 (by omega)
    have hk8 : k < 8 := by omega
    have hkn : nI k < g 1 4 := by rw [d1]; exact nI_lt hkm (by omega)
    have kf : ∀ c, c < 9 → g (14 + k) c = g 66 (26 + 9 * k + c) := fun c hc => kx_knf (lr := lr) hk a4 hkm hc
    obtain ⟨-, q2, q3, q4, q5, q6, q7, q8, q9⟩ := hk k hkm
    dsimp only at q2 q3 q4 q5 q6 q7 q8 q9
    by_cases hw : 0 ≤ b ∧ b ≤ 3
    · obtain ⟨e, he, rfl⟩ := kx_nIof (n := 3) hw.1 hw.2 (by omega)
      rcases (show e = 0 ∨ e = 1 ∨ e = 2 ∨ e = 3 by omega) with rfl | rfl | rfl | rfl
      · by_cases hx : 0 ≤ c ∧ c ≤ 198
        · obtain ⟨x, hx9, rfl⟩ := kx_nIof (n := 198) hx.1 hx.2 (by omega)
          refine kx_two (by decide) (Nat.le_of_ble_eq_true rfl) (by decide) (Nat.le_of_ble_eq_true rfl) ?_
          refine kx_st 0 (pc' := 0) (L' := [some (.ref 0), some (.int (nI k)), some (.int 0), some (.int (nI x)), none]) (st' := []) (h' := kv_wd g w) rfl ?_
          refine kx_st 3 (pc' := 5) (L' := [some (.ref 0), some (.int (nI k)), some (.int 0), some (.int (nI x)), none]) (st' := [.int (nI k), .ref 1]) (h' := kv_wd g w) rfl ?_
          refine kx_call (z := 17) (as := [.ref 1, .int (nI k)]) (rest := []) (v := some (.ref (14 + k))) (h1 := kv_wd g w) rfl (ev_knotAt (d := 898) (g := g) q k hk8 hkn) ?_
          refine kx_st 0 (pc' := 8) (L' := [some (.ref 0), some (.int (nI k)), some (.int 0), some (.int (nI x)), none]) (st' := [.ref (14 + k)]) (h' := kv_wd g w) rfl ?_
          refine kx_st 2 (pc' := 12) (L' := [some (.ref 0), some (.int (nI k)), some (.int 0), some (.int (nI x)), some (.ref (14 + k))]) (st' := [.ref (14 + k)]) (h' := kv_wd g w) rfl ?_
          refine kx_st 1 (pc' := 15) (L' := [some (.ref 0), some (.int (nI k)), some (.int 0), some (.int (nI x)), some (.ref (14 + k))]) (st' := []) (h' := kv_wd g w) rfl ?_
          refine kx_st 2 (pc' := 17) (L' := [some (.ref 0), some (.int (nI k)), some (.int 0), some (.int (nI x)), some (.ref (14 + k))]) (st' := [.int 3, .int 0]) (h' := kv_wd g w) rfl ?_
          refine kx_call (z := 124) (as := [.int 0, .int 3]) (rest := []) (v := some (.int (kx_b (0 ≤ (0 : Int32) ∧ (0 : Int32) ≤ 3)))) (h1 := kv_wd g w) rfl (ev_within (d := 898) 0 3) ?_
          refine kx_st 0 (pc' := 20) (L' := [some (.ref 0), some (.int (nI k)), some (.int 0), some (.int (nI x)), some (.ref (14 + k))]) (st' := [.int (kx_b (0 ≤ (0 : Int32) ∧ (0 : Int32) ≤ 3))]) (h' := kv_wd g w) rfl ?_
          refine kx_be (t := 34) rfl rfl (fun (h20 : ¬ (0 ≤ (0 : Int32) ∧ (0 : Int32) ≤ 3)) => ?_) (fun (h20 : (0 ≤ (0 : Int32) ∧ (0 : Int32) ≤ 3)) => ?_)
          · exact absurd hw h20
          · refine kx_st 0 (pc' := 23) (L' := [some (.ref 0), some (.int (nI k)), some (.int 0), some (.int (nI x)), some (.ref (14 + k))]) (st' := []) (h' := kv_wd g w) rfl ?_
            refine kx_st 2 (pc' := 25) (L' := [some (.ref 0), some (.int (nI k)), some (.int 0), some (.int (nI x)), some (.ref (14 + k))]) (st' := [.int 0, .int (nI x)]) (h' := kv_wd g w) rfl ?_
            refine kx_call (z := 125) (as := [.int 0]) (rest := [.int (nI x)]) (v := some (.int 198)) (h1 := kv_wd g w) rfl (ev_moc_0 (d := 898)) ?_
            refine kx_st 0 (pc' := 28) (L' := [some (.ref 0), some (.int (nI k)), some (.int 0), some (.int (nI x)), some (.ref (14 + k))]) (st' := [.int 198, .int (nI x)]) (h' := kv_wd g w) rfl ?_
            refine kx_call (z := 124) (as := [.int (nI x), .int 198]) (rest := []) (v := some (.int (kx_b (0 ≤ nI x ∧ nI x ≤ 198)))) (h1 := kv_wd g w) rfl (ev_within (d := 898) (nI x) 198) ?_
            refine kx_st 0 (pc' := 31) (L' := [some (.ref 0), some (.int (nI k)), some (.int 0), some (.int (nI x)), some (.ref (14 + k))]) (st' := [.int (kx_b (0 ≤ nI x ∧ nI x ≤ 198))]) (h' := kv_wd g w) rfl ?_
            refine kx_bn (t := 40) rfl rfl (fun (h31 : (0 ≤ nI x ∧ nI x ≤ 198)) => ?_) (fun (h31 : ¬ (0 ≤ nI x ∧ nI x ≤ 198)) => ?_)
            · refine kx_st 3 (pc' := 44) (L' := [some (.ref 0), some (.int (nI k)), some (.int 0), some (.int (nI x)), some (.ref (14 + k))]) (st' := [.int (nI x), .int 0, .ref (14 + k)]) (h' := kv_wd g w) rfl ?_
              refine kx_call (z := 31) (as := [.ref (14 + k), .int 0, .int (nI x)]) (rest := []) (v := some (.int (g (14 + k) 4))) (h1 := kv_wd (kv_up g (14 + k) 4 (nI x)) w) (kx_cv (b := 14 + k) (A := [.int 0, .int (nI x)]) (rest := []) rfl rfl rfl rfl (Nat.le_of_ble_eq_true rfl) (kv_kn_h hk8).1 ((kv_kn_h hk8).2 _ _)) (ev_alter_0 (d := 898) k hk8 (nI x)) ?_
              refine kx_st 0 (pc' := 47) (L' := [some (.ref 0), some (.int (nI k)), some (.int 0), some (.int (nI x)), some (.ref (14 + k))]) (st' := [.int (g (14 + k) 4)]) (h' := kv_wd (kv_up g (14 + k) 4 (nI x)) w) rfl ?_
              refine kx_ret (v := some (.int (g (14 + k) 4))) rfl ?_
              refine ⟨_, _, _, rfl, rfl, ?_⟩
              refine kx_st 0 (pc' := 0) (L' := [some (.ref 65), some (.int (nI k)), some (.int 0), some (.int (nI x)), none]) (st' := []) (h' := kv_wd (kv_up g (14 + k) 4 (nI x)) w) rfl ?_
              refine kx_st 1 (pc' := 1) (L' := [some (.ref 65), some (.int (nI k)), some (.int 0), some (.int (nI x)), none]) (st' := [.int 0]) (h' := kv_wd (kv_up g (14 + k) 4 (nI x)) w) rfl ?_
              refine kx_st 1 (pc' := 4) (L' := [some (.ref 65), some (.int (nI k)), some (.int 0), some (.int (nI x)), none]) (st' := []) (h' := kv_wd (kv_up g (14 + k) 4 (nI x)) w) rfl ?_
              refine kx_st 3 (pc' := 9) (L' := [some (.ref 65), some (.int (nI k)), some (.int 0), some (.int (nI x)), none]) (st' := [.int 198, .int 0, .int (nI x)]) (h' := kv_wd (kv_up g (14 + k) 4 (nI x)) w) rfl ?_
              refine kx_call (z := 130) (as := [.int (nI x), .int 0, .int 198]) (rest := []) (v := some (.int (kx_b (0 ≤ nI x ∧ nI x ≤ 198)))) (h1 := kv_wd (kv_up g (14 + k) 4 (nI x)) w) rfl (ev_in (d := 898) (nI x) 0 198) ?_
              refine kx_st 0 (pc' := 12) (L' := [some (.ref 65), some (.int (nI k)), some (.int 0), some (.int (nI x)), none]) (st' := [.int (kx_b (0 ≤ nI x ∧ nI x ≤ 198))]) (h' := kv_wd (kv_up g (14 + k) 4 (nI x)) w) rfl ?_
              refine kx_st 4 (pc' := 69) (L' := [some (.ref 65), some (.int (nI k)), some (.int 0), some (.int (nI x)), some (.int (kx_b (0 ≤ nI x ∧ nI x ≤ 198)))]) (st' := [.int (nI k), .ref 65]) (h' := kv_wd (kv_up g (14 + k) 4 (nI x)) w) rfl ?_
              refine kx_call (z := 139) (as := [.ref 65, .int (nI k)]) (rest := []) (v := some (.int (kx_b (0 ≤ nI k ∧ nI k < nI m)))) (h1 := kv_wd (kv_up g (14 + k) 4 (nI x)) w) rfl (ev_mKnotS (d := 897) (g := kv_up g (14 + k) 4 (nI x)) (s := m) (by first | exact d2 | (rw [kv_up_ne (by omega)]; exact d2)) a4 (nI k)) ?_
              refine kx_st 0 (pc' := 72) (L' := [some (.ref 65), some (.int (nI k)), some (.int 0), some (.int (nI x)), some (.int (kx_b (0 ≤ nI x ∧ nI x ≤ 198)))]) (st' := [.int (kx_b (0 ≤ nI k ∧ nI k < nI m))]) (h' := kv_wd (kv_up g (14 + k) 4 (nI x)) w) rfl ?_
              refine kx_be (t := 80) rfl rfl (fun (m72 : ¬ (0 ≤ nI k ∧ nI k < nI m)) => ?_) (fun (m72 : (0 ≤ nI k ∧ nI k < nI m)) => ?_)
              · exact absurd hv m72
              · refine kx_st 0 (pc' := 75) (L' := [some (.ref 65), some (.int (nI k)), some (.int 0), some (.int (nI x)), some (.int (kx_b (0 ≤ nI x ∧ nI x ≤ 198)))]) (st' := []) (h' := kv_wd (kv_up g (14 + k) 4 (nI x)) w) rfl ?_
                refine kx_st 1 (pc' := 77) (L' := [some (.ref 65), some (.int (nI k)), some (.int 0), some (.int (nI x)), some (.int (kx_b (0 ≤ nI x ∧ nI x ≤ 198)))]) (st' := [.int (kx_b (0 ≤ nI x ∧ nI x ≤ 198))]) (h' := kv_wd (kv_up g (14 + k) 4 (nI x)) w) rfl ?_
                refine kx_bn (t := 87) rfl rfl (fun (m77 : (0 ≤ nI x ∧ nI x ≤ 198)) => ?_) (fun (m77 : ¬ (0 ≤ nI x ∧ nI x ≤ 198)) => ?_)
                · refine kx_st 7 (pc' := 96) (L' := [some (.ref 65), some (.int (nI k)), some (.int 0), some (.int (nI x)), some (.int (kx_b (0 ≤ nI x ∧ nI x ≤ 198)))]) (st' := [.int 0, .int (26 + (9 * (nI k))), .ref 65]) (h' := kv_wd (kv_up g (14 + k) 4 (nI x)) w) rfl ?_
                  refine kx_st 1 (pc' := 99) (L' := [some (.ref 65), some (.int (nI k)), some (.int 0), some (.int (nI x)), some (.int (kx_b (0 ≤ nI x ∧ nI x ≤ 198)))]) (st' := [.int (26 + (9 * (nI k))), .ref 65]) (h' := kv_wd (kv_up g (14 + k) 4 (nI x)) w) rfl ?_
                  refine kx_st 4 (pc' := 126) (L' := [some (.ref 65), some (.int (nI k)), some (.int 0), some (.int (nI x)), some (.int (kx_b (0 ≤ nI x ∧ nI x ≤ 198)))]) (st' := [.int (nI x), .int ((26 + (9 * (nI k))) + 4), .ref 65]) (h' := kv_wd (kv_up g (14 + k) 4 (nI x)) w) rfl ?_
                  refine kx_call (z := 142) (as := [.ref 65, .int ((26 + (9 * (nI k))) + 4), .int (nI x)]) (rest := []) (v := some (.int ((kv_up g (14 + k) 4 (nI x)) 66 (26 + 9 * k + 4)))) (h1 := kv_wd (kv_up (kv_up g (14 + k) 4 (nI x)) 66 (26 + 9 * k + 4) (nI x)) w) rfl (by rw [show ((26 : Int32) + 9 * nI k) + 4 = nI (26 + 9 * k + 4) from kx_i26 k 4]; exact ev_becomes (d := 898) (26 + 9 * k + 4) (by omega) (nI x)) ?_
                  refine kx_st 0 (pc' := 129) (L' := [some (.ref 65), some (.int (nI k)), some (.int 0), some (.int (nI x)), some (.int (kx_b (0 ≤ nI x ∧ nI x ≤ 198)))]) (st' := [.int ((kv_up g (14 + k) 4 (nI x)) 66 (26 + 9 * k + 4))]) (h' := kv_wd (kv_up (kv_up g (14 + k) 4 (nI x)) 66 (26 + 9 * k + 4) (nI x)) w) rfl ?_
                  refine kx_ret (v := some (.int ((kv_up g (14 + k) 4 (nI x)) 66 (26 + 9 * k + 4)))) rfl ?_
                  exact ⟨by rw [kf 4 (by omega), kv_up_ne (by omega)], _, _, rfl, kx_Rl_knot hR d2 a4 hkm (by omega) (fun z => absurd z (by decide)) (fun z => absurd z (by decide)) (by decide) (fun _ => ⟨x, hx9, rfl⟩) (fun z => absurd z (by decide)) (fun z => absurd z (by decide)) (fun z => absurd z (by decide))⟩
                · exact absurd hx m77
            · exact absurd hx h31
        · refine kx_two (by decide) (Nat.le_of_ble_eq_true rfl) (by decide) (Nat.le_of_ble_eq_true rfl) ?_
          refine kx_st 0 (pc' := 0) (L' := [some (.ref 0), some (.int (nI k)), some (.int 0), some (.int c), none]) (st' := []) (h' := kv_wd g w) rfl ?_
          refine kx_st 3 (pc' := 5) (L' := [some (.ref 0), some (.int (nI k)), some (.int 0), some (.int c), none]) (st' := [.int (nI k), .ref 1]) (h' := kv_wd g w) rfl ?_
          refine kx_call (z := 17) (as := [.ref 1, .int (nI k)]) (rest := []) (v := some (.ref (14 + k))) (h1 := kv_wd g w) rfl (ev_knotAt (d := 898) (g := g) q k hk8 hkn) ?_
          refine kx_st 0 (pc' := 8) (L' := [some (.ref 0), some (.int (nI k)), some (.int 0), some (.int c), none]) (st' := [.ref (14 + k)]) (h' := kv_wd g w) rfl ?_
          refine kx_st 2 (pc' := 12) (L' := [some (.ref 0), some (.int (nI k)), some (.int 0), some (.int c), some (.ref (14 + k))]) (st' := [.ref (14 + k)]) (h' := kv_wd g w) rfl ?_
          refine kx_st 1 (pc' := 15) (L' := [some (.ref 0), some (.int (nI k)), some (.int 0), some (.int c), some (.ref (14 + k))]) (st' := []) (h' := kv_wd g w) rfl ?_
          refine kx_st 2 (pc' := 17) (L' := [some (.ref 0), some (.int (nI k)), some (.int 0), some (.int c), some (.ref (14 + k))]) (st' := [.int 3, .int 0]) (h' := kv_wd g w) rfl ?_
          refine kx_call (z := 124) (as := [.int 0, .int 3]) (rest := []) (v := some (.int (kx_b (0 ≤ (0 : Int32) ∧ (0 : Int32) ≤ 3)))) (h1 := kv_wd g w) rfl (ev_within (d := 898) 0 3) ?_
          refine kx_st 0 (pc' := 20) (L' := [some (.ref 0), some (.int (nI k)), some (.int 0), some (.int c), some (.ref (14 + k))]) (st' := [.int (kx_b (0 ≤ (0 : Int32) ∧ (0 : Int32) ≤ 3))]) (h' := kv_wd g w) rfl ?_
          refine kx_be (t := 34) rfl rfl (fun (h20 : ¬ (0 ≤ (0 : Int32) ∧ (0 : Int32) ≤ 3)) => ?_) (fun (h20 : (0 ≤ (0 : Int32) ∧ (0 : Int32) ≤ 3)) => ?_)
          · exact absurd hw h20
          · refine kx_st 0 (pc' := 23) (L' := [some (.ref 0), some (.int (nI k)), some (.int 0), some (.int c), some (.ref (14 + k))]) (st' := []) (h' := kv_wd g w) rfl ?_
            refine kx_st 2 (pc' := 25) (L' := [some (.ref 0), some (.int (nI k)), some (.int 0), some (.int c), some (.ref (14 + k))]) (st' := [.int 0, .int c]) (h' := kv_wd g w) rfl ?_
            refine kx_call (z := 125) (as := [.int 0]) (rest := [.int c]) (v := some (.int 198)) (h1 := kv_wd g w) rfl (ev_moc_0 (d := 898)) ?_
            refine kx_st 0 (pc' := 28) (L' := [some (.ref 0), some (.int (nI k)), some (.int 0), some (.int c), some (.ref (14 + k))]) (st' := [.int 198, .int c]) (h' := kv_wd g w) rfl ?_
            refine kx_call (z := 124) (as := [.int c, .int 198]) (rest := []) (v := some (.int (kx_b (0 ≤ c ∧ c ≤ 198)))) (h1 := kv_wd g w) rfl (ev_within (d := 898) c 198) ?_
            refine kx_st 0 (pc' := 31) (L' := [some (.ref 0), some (.int (nI k)), some (.int 0), some (.int c), some (.ref (14 + k))]) (st' := [.int (kx_b (0 ≤ c ∧ c ≤ 198))]) (h' := kv_wd g w) rfl ?_
            refine kx_bn (t := 40) rfl rfl (fun (h31 : (0 ≤ c ∧ c ≤ 198)) => ?_) (fun (h31 : ¬ (0 ≤ c ∧ c ≤ 198)) => ?_)
            · exact absurd h31 hx
            · refine kx_st 0 (pc' := 34) (L' := [some (.ref 0), some (.int (nI k)), some (.int 0), some (.int c), some (.ref (14 + k))]) (st' := []) (h' := kv_wd g w) rfl ?_
              refine kx_st 2 (pc' := 36) (L' := [some (.ref 0), some (.int (nI k)), some (.int 0), some (.int c), some (.ref (14 + k))]) (st' := [.int 1, .ref 0]) (h' := kv_wd g w) rfl ?_
              refine kx_call (z := 123) (as := [.ref 0, .int 1]) (rest := []) (v := some (.int (-1000000000 - nI 1))) (h1 := kv_wd (kv_up g 64 1 (g 64 1 + 1)) w) rfl (ev_error (d := 898) 1 (by decide) (by decide)) ?_
              refine kx_st 0 (pc' := 39) (L' := [some (.ref 0), some (.int (nI k)), some (.int 0), some (.int c), some (.ref (14 + k))]) (st' := [.int (-1000000000 - nI 1)]) (h' := kv_wd (kv_up g 64 1 (g 64 1 + 1)) w) rfl ?_
              refine kx_ret (v := some (.int (-1000000000 - nI 1))) rfl ?_
              refine ⟨_, _, _, rfl, rfl, ?_⟩
              refine kx_st 0 (pc' := 0) (L' := [some (.ref 65), some (.int (nI k)), some (.int 0), some (.int c), none]) (st' := []) (h' := kv_wd (kv_up g 64 1 (g 64 1 + 1)) w) rfl ?_
              refine kx_st 1 (pc' := 1) (L' := [some (.ref 65), some (.int (nI k)), some (.int 0), some (.int c), none]) (st' := [.int 0]) (h' := kv_wd (kv_up g 64 1 (g 64 1 + 1)) w) rfl ?_
              refine kx_st 1 (pc' := 4) (L' := [some (.ref 65), some (.int (nI k)), some (.int 0), some (.int c), none]) (st' := []) (h' := kv_wd (kv_up g 64 1 (g 64 1 + 1)) w) rfl ?_
              refine kx_st 3 (pc' := 9) (L' := [some (.ref 65), some (.int (nI k)), some (.int 0), some (.int c), none]) (st' := [.int 198, .int 0, .int c]) (h' := kv_wd (kv_up g 64 1 (g 64 1 + 1)) w) rfl ?_
              refine kx_call (z := 130) (as := [.int c, .int 0, .int 198]) (rest := []) (v := some (.int (kx_b (0 ≤ c ∧ c ≤ 198)))) (h1 := kv_wd (kv_up g 64 1 (g 64 1 + 1)) w) rfl (ev_in (d := 898) c 0 198) ?_
              refine kx_st 0 (pc' := 12) (L' := [some (.ref 65), some (.int (nI k)), some (.int 0), some (.int c), none]) (st' := [.int (kx_b (0 ≤ c ∧ c ≤ 198))]) (h' := kv_wd (kv_up g 64 1 (g 64 1 + 1)) w) rfl ?_
              refine kx_st 4 (pc' := 69) (L' := [some (.ref 65), some (.int (nI k)), some (.int 0), some (.int c), some (.int (kx_b (0 ≤ c ∧ c ≤ 198)))]) (st' := [.int (nI k), .ref 65]) (h' := kv_wd (kv_up g 64 1 (g 64 1 + 1)) w) rfl ?_
              refine kx_call (z := 139) (as := [.ref 65, .int (nI k)]) (rest := []) (v := some (.int (kx_b (0 ≤ nI k ∧ nI k < nI m)))) (h1 := kv_wd (kv_up g 64 1 (g 64 1 + 1)) w) rfl (ev_mKnotS (d := 897) (g := kv_up g 64 1 (g 64 1 + 1)) (s := m) (by first | exact d2 | (rw [kv_up_ne (by omega)]; exact d2)) a4 (nI k)) ?_
              refine kx_st 0 (pc' := 72) (L' := [some (.ref 65), some (.int (nI k)), some (.int 0), some (.int c), some (.int (kx_b (0 ≤ c ∧ c ≤ 198)))]) (st' := [.int (kx_b (0 ≤ nI k ∧ nI k < nI m))]) (h' := kv_wd (kv_up g 64 1 (g 64 1 + 1)) w) rfl ?_
              refine kx_be (t := 80) rfl rfl (fun (m72 : ¬ (0 ≤ nI k ∧ nI k < nI m)) => ?_) (fun (m72 : (0 ≤ nI k ∧ nI k < nI m)) => ?_)
              · exact absurd hv m72
              · refine kx_st 0 (pc' := 75) (L' := [some (.ref 65), some (.int (nI k)), some (.int 0), some (.int c), some (.int (kx_b (0 ≤ c ∧ c ≤ 198)))]) (st' := []) (h' := kv_wd (kv_up g 64 1 (g 64 1 + 1)) w) rfl ?_
                refine kx_st 1 (pc' := 77) (L' := [some (.ref 65), some (.int (nI k)), some (.int 0), some (.int c), some (.int (kx_b (0 ≤ c ∧ c ≤ 198)))]) (st' := [.int (kx_b (0 ≤ c ∧ c ≤ 198))]) (h' := kv_wd (kv_up g 64 1 (g 64 1 + 1)) w) rfl ?_
                refine kx_bn (t := 87) rfl rfl (fun (m77 : (0 ≤ c ∧ c ≤ 198)) => ?_) (fun (m77 : ¬ (0 ≤ c ∧ c ≤ 198)) => ?_)
                · exact absurd m77 hx
                · refine kx_st 0 (pc' := 80) (L' := [some (.ref 65), some (.int (nI k)), some (.int 0), some (.int c), some (.int (kx_b (0 ≤ c ∧ c ≤ 198)))]) (st' := []) (h' := kv_wd (kv_up g 64 1 (g 64 1 + 1)) w) rfl ?_
                  refine kx_st 2 (pc' := 83) (L' := [some (.ref 65), some (.int (nI k)), some (.int 0), some (.int c), some (.int (kx_b (0 ≤ c ∧ c ≤ 198)))]) (st' := [.int (-1000000001), .ref 65]) (h' := kv_wd (kv_up g 64 1 (g 64 1 + 1)) w) rfl ?_
                  refine kx_call (z := 131) (as := [.ref 65, .int (-1000000001)]) (rest := []) (v := some (.int (-1000000001))) (h1 := kv_wd (kv_up (kv_up g 64 1 (g 64 1 + 1)) 70 1 ((kv_up g 64 1 (g 64 1 + 1)) 70 1 + 1)) w) rfl (ev_errs (d := 898) (-1000000001) 1 (by decide) (by decide)) ?_
                  refine kx_st 0 (pc' := 86) (L' := [some (.ref 65), some (.int (nI k)), some (.int 0), some (.int c), some (.int (kx_b (0 ≤ c ∧ c ≤ 198)))]) (st' := [.int (-1000000001)]) (h' := kv_wd (kv_up (kv_up g 64 1 (g 64 1 + 1)) 70 1 ((kv_up g 64 1 (g 64 1 + 1)) 70 1 + 1)) w) rfl ?_
                  refine kx_ret (v := some (.int (-1000000001))) rfl ?_
                  exact ⟨rfl, _, _, rfl, kx_Rl_e hR⟩
      · by_cases hx : 0 ≤ c ∧ c ≤ 999
        · obtain ⟨x, hx9, rfl⟩ := kx_nIof (n := 999) hx.1 hx.2 (by omega)
          refine kx_two (by decide) (Nat.le_of_ble_eq_true rfl) (by decide) (Nat.le_of_ble_eq_true rfl) ?_
          refine kx_st 0 (pc' := 0) (L' := [some (.ref 0), some (.int (nI k)), some (.int 1), some (.int (nI x)), none]) (st' := []) (h' := kv_wd g w) rfl ?_
          refine kx_st 3 (pc' := 5) (L' := [some (.ref 0), some (.int (nI k)), some (.int 1), some (.int (nI x)), none]) (st' := [.int (nI k), .ref 1]) (h' := kv_wd g w) rfl ?_
          refine kx_call (z := 17) (as := [.ref 1, .int (nI k)]) (rest := []) (v := some (.ref (14 + k))) (h1 := kv_wd g w) rfl (ev_knotAt (d := 898) (g := g) q k hk8 hkn) ?_
          refine kx_st 0 (pc' := 8) (L' := [some (.ref 0), some (.int (nI k)), some (.int 1), some (.int (nI x)), none]) (st' := [.ref (14 + k)]) (h' := kv_wd g w) rfl ?_
          refine kx_st 2 (pc' := 12) (L' := [some (.ref 0), some (.int (nI k)), some (.int 1), some (.int (nI x)), some (.ref (14 + k))]) (st' := [.ref (14 + k)]) (h' := kv_wd g w) rfl ?_
          refine kx_st 1 (pc' := 15) (L' := [some (.ref 0), some (.int (nI k)), some (.int 1), some (.int (nI x)), some (.ref (14 + k))]) (st' := []) (h' := kv_wd g w) rfl ?_
          refine kx_st 2 (pc' := 17) (L' := [some (.ref 0), some (.int (nI k)), some (.int 1), some (.int (nI x)), some (.ref (14 + k))]) (st' := [.int 3, .int 1]) (h' := kv_wd g w) rfl ?_
          refine kx_call (z := 124) (as := [.int 1, .int 3]) (rest := []) (v := some (.int (kx_b (0 ≤ (1 : Int32) ∧ (1 : Int32) ≤ 3)))) (h1 := kv_wd g w) rfl (ev_within (d := 898) 1 3) ?_
          refine kx_st 0 (pc' := 20) (L' := [some (.ref 0), some (.int (nI k)), some (.int 1), some (.int (nI x)), some (.ref (14 + k))]) (st' := [.int (kx_b (0 ≤ (1 : Int32) ∧ (1 : Int32) ≤ 3))]) (h' := kv_wd g w) rfl ?_
          refine kx_be (t := 34) rfl rfl (fun (h20 : ¬ (0 ≤ (1 : Int32) ∧ (1 : Int32) ≤ 3)) => ?_) (fun (h20 : (0 ≤ (1 : Int32) ∧ (1 : Int32) ≤ 3)) => ?_)
          · exact absurd hw h20
          · refine kx_st 0 (pc' := 23) (L' := [some (.ref 0), some (.int (nI k)), some (.int 1), some (.int (nI x)), some (.ref (14 + k))]) (st' := []) (h' := kv_wd g w) rfl ?_
            refine kx_st 2 (pc' := 25) (L' := [some (.ref 0), some (.int (nI k)), some (.int 1), some (.int (nI x)), some (.ref (14 + k))]) (st' := [.int 1, .int (nI x)]) (h' := kv_wd g w) rfl ?_
            refine kx_call (z := 125) (as := [.int 1]) (rest := [.int (nI x)]) (v := some (.int 999)) (h1 := kv_wd g w) rfl (ev_moc_1 (d := 898)) ?_
            refine kx_st 0 (pc' := 28) (L' := [some (.ref 0), some (.int (nI k)), some (.int 1), some (.int (nI x)), some (.ref (14 + k))]) (st' := [.int 999, .int (nI x)]) (h' := kv_wd g w) rfl ?_
            refine kx_call (z := 124) (as := [.int (nI x), .int 999]) (rest := []) (v := some (.int (kx_b (0 ≤ nI x ∧ nI x ≤ 999)))) (h1 := kv_wd g w) rfl (ev_within (d := 898) (nI x) 999) ?_
            refine kx_st 0 (pc' := 31) (L' := [some (.ref 0), some (.int (nI k)), some (.int 1), some (.int (nI x)), some (.ref (14 + k))]) (st' := [.int (kx_b (0 ≤ nI x ∧ nI x ≤ 999))]) (h' := kv_wd g w) rfl ?_
            refine kx_bn (t := 40) rfl rfl (fun (h31 : (0 ≤ nI x ∧ nI x ≤ 999)) => ?_) (fun (h31 : ¬ (0 ≤ nI x ∧ nI x ≤ 999)) => ?_)
            · refine kx_st 3 (pc' := 44) (L' := [some (.ref 0), some (.int (nI k)), some (.int 1), some (.int (nI x)), some (.ref (14 + k))]) (st' := [.int (nI x), .int 1, .ref (14 + k)]) (h' := kv_wd g w) rfl ?_
              refine kx_call (z := 31) (as := [.ref (14 + k), .int 1, .int (nI x)]) (rest := []) (v := some (.int (g (14 + k) 5))) (h1 := kv_wd (kv_up g (14 + k) 5 (nI x)) w) (kx_cv (b := 14 + k) (A := [.int 1, .int (nI x)]) (rest := []) rfl rfl rfl rfl (Nat.le_of_ble_eq_true rfl) (kv_kn_h hk8).1 ((kv_kn_h hk8).2 _ _)) (ev_alter_1 (d := 898) k hk8 (nI x)) ?_
              refine kx_st 0 (pc' := 47) (L' := [some (.ref 0), some (.int (nI k)), some (.int 1), some (.int (nI x)), some (.ref (14 + k))]) (st' := [.int (g (14 + k) 5)]) (h' := kv_wd (kv_up g (14 + k) 5 (nI x)) w) rfl ?_
              refine kx_ret (v := some (.int (g (14 + k) 5))) rfl ?_
              refine ⟨_, _, _, rfl, rfl, ?_⟩
              refine kx_st 0 (pc' := 0) (L' := [some (.ref 65), some (.int (nI k)), some (.int 1), some (.int (nI x)), none]) (st' := []) (h' := kv_wd (kv_up g (14 + k) 5 (nI x)) w) rfl ?_
              refine kx_st 1 (pc' := 1) (L' := [some (.ref 65), some (.int (nI k)), some (.int 1), some (.int (nI x)), none]) (st' := [.int 1]) (h' := kv_wd (kv_up g (14 + k) 5 (nI x)) w) rfl ?_
              refine kx_st 1 (pc' := 15) (L' := [some (.ref 65), some (.int (nI k)), some (.int 1), some (.int (nI x)), none]) (st' := []) (h' := kv_wd (kv_up g (14 + k) 5 (nI x)) w) rfl ?_
              refine kx_st 2 (pc' := 17) (L' := [some (.ref 65), some (.int (nI k)), some (.int 1), some (.int (nI x)), none]) (st' := [.int 1, .int 1]) (h' := kv_wd (kv_up g (14 + k) 5 (nI x)) w) rfl ?_
              refine kx_st 1 (pc' := 20) (L' := [some (.ref 65), some (.int (nI k)), some (.int 1), some (.int (nI x)), none]) (st' := []) (h' := kv_wd (kv_up g (14 + k) 5 (nI x)) w) rfl ?_
              refine kx_st 3 (pc' := 25) (L' := [some (.ref 65), some (.int (nI k)), some (.int 1), some (.int (nI x)), none]) (st' := [.int 999, .int 0, .int (nI x)]) (h' := kv_wd (kv_up g (14 + k) 5 (nI x)) w) rfl ?_
              refine kx_call (z := 130) (as := [.int (nI x), .int 0, .int 999]) (rest := []) (v := some (.int (kx_b (0 ≤ nI x ∧ nI x ≤ 999)))) (h1 := kv_wd (kv_up g (14 + k) 5 (nI x)) w) rfl (ev_in (d := 898) (nI x) 0 999) ?_
              refine kx_st 0 (pc' := 28) (L' := [some (.ref 65), some (.int (nI k)), some (.int 1), some (.int (nI x)), none]) (st' := [.int (kx_b (0 ≤ nI x ∧ nI x ≤ 999))]) (h' := kv_wd (kv_up g (14 + k) 5 (nI x)) w) rfl ?_
              refine kx_st 4 (pc' := 69) (L' := [some (.ref 65), some (.int (nI k)), some (.int 1), some (.int (nI x)), some (.int (kx_b (0 ≤ nI x ∧ nI x ≤ 999)))]) (st' := [.int (nI k), .ref 65]) (h' := kv_wd (kv_up g (14 + k) 5 (nI x)) w) rfl ?_
              refine kx_call (z := 139) (as := [.ref 65, .int (nI k)]) (rest := []) (v := some (.int (kx_b (0 ≤ nI k ∧ nI k < nI m)))) (h1 := kv_wd (kv_up g (14 + k) 5 (nI x)) w) rfl (ev_mKnotS (d := 897) (g := kv_up g (14 + k) 5 (nI x)) (s := m) (by first | exact d2 | (rw [kv_up_ne (by omega)]; exact d2)) a4 (nI k)) ?_
              refine kx_st 0 (pc' := 72) (L' := [some (.ref 65), some (.int (nI k)), some (.int 1), some (.int (nI x)), some (.int (kx_b (0 ≤ nI x ∧ nI x ≤ 999)))]) (st' := [.int (kx_b (0 ≤ nI k ∧ nI k < nI m))]) (h' := kv_wd (kv_up g (14 + k) 5 (nI x)) w) rfl ?_
              refine kx_be (t := 80) rfl rfl (fun (m72 : ¬ (0 ≤ nI k ∧ nI k < nI m)) => ?_) (fun (m72 : (0 ≤ nI k ∧ nI k < nI m)) => ?_)
              · exact absurd hv m72
              · refine kx_st 0 (pc' := 75) (L' := [some (.ref 65), some (.int (nI k)), some (.int 1), some (.int (nI x)), some (.int (kx_b (0 ≤ nI x ∧ nI x ≤ 999)))]) (st' := []) (h' := kv_wd (kv_up g (14 + k) 5 (nI x)) w) rfl ?_
                refine kx_st 1 (pc' := 77) (L' := [some (.ref 65), some (.int (nI k)), some (.int 1), some (.int (nI x)), some (.int (kx_b (0 ≤ nI x ∧ nI x ≤ 999)))]) (st' := [.int (kx_b (0 ≤ nI x ∧ nI x ≤ 999))]) (h' := kv_wd (kv_up g (14 + k) 5 (nI x)) w) rfl ?_
                refine kx_bn (t := 87) rfl rfl (fun (m77 : (0 ≤ nI x ∧ nI x ≤ 999)) => ?_) (fun (m77 : ¬ (0 ≤ nI x ∧ nI x ≤ 999)) => ?_)
                · refine kx_st 7 (pc' := 96) (L' := [some (.ref 65), some (.int (nI k)), some (.int 1), some (.int (nI x)), some (.int (kx_b (0 ≤ nI x ∧ nI x ≤ 999)))]) (st' := [.int 1, .int (26 + (9 * (nI k))), .ref 65]) (h' := kv_wd (kv_up g (14 + k) 5 (nI x)) w) rfl ?_
                  refine kx_st 1 (pc' := 103) (L' := [some (.ref 65), some (.int (nI k)), some (.int 1), some (.int (nI x)), some (.int (kx_b (0 ≤ nI x ∧ nI x ≤ 999)))]) (st' := [.int (26 + (9 * (nI k))), .ref 65]) (h' := kv_wd (kv_up g (14 + k) 5 (nI x)) w) rfl ?_
                  refine kx_st 2 (pc' := 105) (L' := [some (.ref 65), some (.int (nI k)), some (.int 1), some (.int (nI x)), some (.int (kx_b (0 ≤ nI x ∧ nI x ≤ 999)))]) (st' := [.int 1, .int 1, .int (26 + (9 * (nI k))), .ref 65]) (h' := kv_wd (kv_up g (14 + k) 5 (nI x)) w) rfl ?_
                  refine kx_st 1 (pc' := 108) (L' := [some (.ref 65), some (.int (nI k)), some (.int 1), some (.int (nI x)), some (.int (kx_b (0 ≤ nI x ∧ nI x ≤ 999)))]) (st' := [.int (26 + (9 * (nI k))), .ref 65]) (h' := kv_wd (kv_up g (14 + k) 5 (nI x)) w) rfl ?_
                  refine kx_st 4 (pc' := 126) (L' := [some (.ref 65), some (.int (nI k)), some (.int 1), some (.int (nI x)), some (.int (kx_b (0 ≤ nI x ∧ nI x ≤ 999)))]) (st' := [.int (nI x), .int ((26 + (9 * (nI k))) + 5), .ref 65]) (h' := kv_wd (kv_up g (14 + k) 5 (nI x)) w) rfl ?_
                  refine kx_call (z := 142) (as := [.ref 65, .int ((26 + (9 * (nI k))) + 5), .int (nI x)]) (rest := []) (v := some (.int ((kv_up g (14 + k) 5 (nI x)) 66 (26 + 9 * k + 5)))) (h1 := kv_wd (kv_up (kv_up g (14 + k) 5 (nI x)) 66 (26 + 9 * k + 5) (nI x)) w) rfl (by rw [show ((26 : Int32) + 9 * nI k) + 5 = nI (26 + 9 * k + 5) from kx_i26 k 5]; exact ev_becomes (d := 898) (26 + 9 * k + 5) (by omega) (nI x)) ?_
                  refine kx_st 0 (pc' := 129) (L' := [some (.ref 65), some (.int (nI k)), some (.int 1), some (.int (nI x)), some (.int (kx_b (0 ≤ nI x ∧ nI x ≤ 999)))]) (st' := [.int ((kv_up g (14 + k) 5 (nI x)) 66 (26 + 9 * k + 5))]) (h' := kv_wd (kv_up (kv_up g (14 + k) 5 (nI x)) 66 (26 + 9 * k + 5) (nI x)) w) rfl ?_
                  refine kx_ret (v := some (.int ((kv_up g (14 + k) 5 (nI x)) 66 (26 + 9 * k + 5)))) rfl ?_
                  exact ⟨by rw [kf 5 (by omega), kv_up_ne (by omega)], _, _, rfl, kx_Rl_knot hR d2 a4 hkm (by omega) (fun z => absurd z (by decide)) (fun z => absurd z (by decide)) (by decide) (fun z => absurd z (by decide)) (fun _ => ⟨x, hx9, rfl⟩) (fun z => absurd z (by decide)) (fun z => absurd z (by decide))⟩
                · exact absurd hx m77
            · exact absurd hx h31
        · refine kx_two (by decide) (Nat.le_of_ble_eq_true rfl) (by decide) (Nat.le_of_ble_eq_true rfl) ?_
          refine kx_st 0 (pc' := 0) (L' := [some (.ref 0), some (.int (nI k)), some (.int 1), some (.int c), none]) (st' := []) (h' := kv_wd g w) rfl ?_
          refine kx_st 3 (pc' := 5) (L' := [some (.ref 0), some (.int (nI k)), some (.int 1), some (.int c), none]) (st' := [.int (nI k), .ref 1]) (h' := kv_wd g w) rfl ?_
          refine kx_call (z := 17) (as := [.ref 1, .int (nI k)]) (rest := []) (v := some (.ref (14 + k))) (h1 := kv_wd g w) rfl (ev_knotAt (d := 898) (g := g) q k hk8 hkn) ?_
          refine kx_st 0 (pc' := 8) (L' := [some (.ref 0), some (.int (nI k)), some (.int 1), some (.int c), none]) (st' := [.ref (14 + k)]) (h' := kv_wd g w) rfl ?_
          refine kx_st 2 (pc' := 12) (L' := [some (.ref 0), some (.int (nI k)), some (.int 1), some (.int c), some (.ref (14 + k))]) (st' := [.ref (14 + k)]) (h' := kv_wd g w) rfl ?_
          refine kx_st 1 (pc' := 15) (L' := [some (.ref 0), some (.int (nI k)), some (.int 1), some (.int c), some (.ref (14 + k))]) (st' := []) (h' := kv_wd g w) rfl ?_
          refine kx_st 2 (pc' := 17) (L' := [some (.ref 0), some (.int (nI k)), some (.int 1), some (.int c), some (.ref (14 + k))]) (st' := [.int 3, .int 1]) (h' := kv_wd g w) rfl ?_
          refine kx_call (z := 124) (as := [.int 1, .int 3]) (rest := []) (v := some (.int (kx_b (0 ≤ (1 : Int32) ∧ (1 : Int32) ≤ 3)))) (h1 := kv_wd g w) rfl (ev_within (d := 898) 1 3) ?_
          refine kx_st 0 (pc' := 20) (L' := [some (.ref 0), some (.int (nI k)), some (.int 1), some (.int c), some (.ref (14 + k))]) (st' := [.int (kx_b (0 ≤ (1 : Int32) ∧ (1 : Int32) ≤ 3))]) (h' := kv_wd g w) rfl ?_
          refine kx_be (t := 34) rfl rfl (fun (h20 : ¬ (0 ≤ (1 : Int32) ∧ (1 : Int32) ≤ 3)) => ?_) (fun (h20 : (0 ≤ (1 : Int32) ∧ (1 : Int32) ≤ 3)) => ?_)
          · exact absurd hw h20
          · refine kx_st 0 (pc' := 23) (L' := [some (.ref 0), some (.int (nI k)), some (.int 1), some (.int c), some (.ref (14 + k))]) (st' := []) (h' := kv_wd g w) rfl ?_
            refine kx_st 2 (pc' := 25) (L' := [some (.ref 0), some (.int (nI k)), some (.int 1), some (.int c), some (.ref (14 + k))]) (st' := [.int 1, .int c]) (h' := kv_wd g w) rfl ?_
            refine kx_call (z := 125) (as := [.int 1]) (rest := [.int c]) (v := some (.int 999)) (h1 := kv_wd g w) rfl (ev_moc_1 (d := 898)) ?_
            refine kx_st 0 (pc' := 28) (L' := [some (.ref 0), some (.int (nI k)), some (.int 1), some (.int c), some (.ref (14 + k))]) (st' := [.int 999, .int c]) (h' := kv_wd g w) rfl ?_
            refine kx_call (z := 124) (as := [.int c, .int 999]) (rest := []) (v := some (.int (kx_b (0 ≤ c ∧ c ≤ 999)))) (h1 := kv_wd g w) rfl (ev_within (d := 898) c 999) ?_
            refine kx_st 0 (pc' := 31) (L' := [some (.ref 0), some (.int (nI k)), some (.int 1), some (.int c), some (.ref (14 + k))]) (st' := [.int (kx_b (0 ≤ c ∧ c ≤ 999))]) (h' := kv_wd g w) rfl ?_
            refine kx_bn (t := 40) rfl rfl (fun (h31 : (0 ≤ c ∧ c ≤ 999)) => ?_) (fun (h31 : ¬ (0 ≤ c ∧ c ≤ 999)) => ?_)
            · exact absurd h31 hx
            · refine kx_st 0 (pc' := 34) (L' := [some (.ref 0), some (.int (nI k)), some (.int 1), some (.int c), some (.ref (14 + k))]) (st' := []) (h' := kv_wd g w) rfl ?_
              refine kx_st 2 (pc' := 36) (L' := [some (.ref 0), some (.int (nI k)), some (.int 1), some (.int c), some (.ref (14 + k))]) (st' := [.int 1, .ref 0]) (h' := kv_wd g w) rfl ?_
              refine kx_call (z := 123) (as := [.ref 0, .int 1]) (rest := []) (v := some (.int (-1000000000 - nI 1))) (h1 := kv_wd (kv_up g 64 1 (g 64 1 + 1)) w) rfl (ev_error (d := 898) 1 (by decide) (by decide)) ?_
              refine kx_st 0 (pc' := 39) (L' := [some (.ref 0), some (.int (nI k)), some (.int 1), some (.int c), some (.ref (14 + k))]) (st' := [.int (-1000000000 - nI 1)]) (h' := kv_wd (kv_up g 64 1 (g 64 1 + 1)) w) rfl ?_
              refine kx_ret (v := some (.int (-1000000000 - nI 1))) rfl ?_
              refine ⟨_, _, _, rfl, rfl, ?_⟩
              refine kx_st 0 (pc' := 0) (L' := [some (.ref 65), some (.int (nI k)), some (.int 1), some (.int c), none]) (st' := []) (h' := kv_wd (kv_up g 64 1 (g 64 1 + 1)) w) rfl ?_
              refine kx_st 1 (pc' := 1) (L' := [some (.ref 65), some (.int (nI k)), some (.int 1), some (.int c), none]) (st' := [.int 1]) (h' := kv_wd (kv_up g 64 1 (g 64 1 + 1)) w) rfl ?_
              refine kx_st 1 (pc' := 15) (L' := [some (.ref 65), some (.int (nI k)), some (.int 1), some (.int c), none]) (st' := []) (h' := kv_wd (kv_up g 64 1 (g 64 1 + 1)) w) rfl ?_
              refine kx_st 2 (pc' := 17) (L' := [some (.ref 65), some (.int (nI k)), some (.int 1), some (.int c), none]) (st' := [.int 1, .int 1]) (h' := kv_wd (kv_up g 64 1 (g 64 1 + 1)) w) rfl ?_
              refine kx_st 1 (pc' := 20) (L' := [some (.ref 65), some (.int (nI k)), some (.int 1), some (.int c), none]) (st' := []) (h' := kv_wd (kv_up g 64 1 (g 64 1 + 1)) w) rfl ?_
              refine kx_st 3 (pc' := 25) (L' := [some (.ref 65), some (.int (nI k)), some (.int 1), some (.int c), none]) (st' := [.int 999, .int 0, .int c]) (h' := kv_wd (kv_up g 64 1 (g 64 1 + 1)) w) rfl ?_
              refine kx_call (z := 130) (as := [.int c, .int 0, .int 999]) (rest := []) (v := some (.int (kx_b (0 ≤ c ∧ c ≤ 999)))) (h1 := kv_wd (kv_up g 64 1 (g 64 1 + 1)) w) rfl (ev_in (d := 898) c 0 999) ?_
              refine kx_st 0 (pc' := 28) (L' := [some (.ref 65), some (.int (nI k)), some (.int 1), some (.int c), none]) (st' := [.int (kx_b (0 ≤ c ∧ c ≤ 999))]) (h' := kv_wd (kv_up g 64 1 (g 64 1 + 1)) w) rfl ?_
              refine kx_st 4 (pc' := 69) (L' := [some (.ref 65), some (.int (nI k)), some (.int 1), some (.int c), some (.int (kx_b (0 ≤ c ∧ c ≤ 999)))]) (st' := [.int (nI k), .ref 65]) (h' := kv_wd (kv_up g 64 1 (g 64 1 + 1)) w) rfl ?_
              refine kx_call (z := 139) (as := [.ref 65, .int (nI k)]) (rest := []) (v := some (.int (kx_b (0 ≤ nI k ∧ nI k < nI m)))) (h1 := kv_wd (kv_up g 64 1 (g 64 1 + 1)) w) rfl (ev_mKnotS (d := 897) (g := kv_up g 64 1 (g 64 1 + 1)) (s := m) (by first | exact d2 | (rw [kv_up_ne (by omega)]; exact d2)) a4 (nI k)) ?_
              refine kx_st 0 (pc' := 72) (L' := [some (.ref 65), some (.int (nI k)), some (.int 1), some (.int c), some (.int (kx_b (0 ≤ c ∧ c ≤ 999)))]) (st' := [.int (kx_b (0 ≤ nI k ∧ nI k < nI m))]) (h' := kv_wd (kv_up g 64 1 (g 64 1 + 1)) w) rfl ?_
              refine kx_be (t := 80) rfl rfl (fun (m72 : ¬ (0 ≤ nI k ∧ nI k < nI m)) => ?_) (fun (m72 : (0 ≤ nI k ∧ nI k < nI m)) => ?_)
              · exact absurd hv m72
              · refine kx_st 0 (pc' := 75) (L' := [some (.ref 65), some (.int (nI k)), some (.int 1), some (.int c), some (.int (kx_b (0 ≤ c ∧ c ≤ 999)))]) (st' := []) (h' := kv_wd (kv_up g 64 1 (g 64 1 + 1)) w) rfl ?_
                refine kx_st 1 (pc' := 77) (L' := [some (.ref 65), some (.int (nI k)), some (.int 1), some (.int c), some (.int (kx_b (0 ≤ c ∧ c ≤ 999)))]) (st' := [.int (kx_b (0 ≤ c ∧ c ≤ 999))]) (h' := kv_wd (kv_up g 64 1 (g 64 1 + 1)) w) rfl ?_
                refine kx_bn (t := 87) rfl rfl (fun (m77 : (0 ≤ c ∧ c ≤ 999)) => ?_) (fun (m77 : ¬ (0 ≤ c ∧ c ≤ 999)) => ?_)
                · exact absurd m77 hx
                · refine kx_st 0 (pc' := 80) (L' := [some (.ref 65), some (.int (nI k)), some (.int 1), some (.int c), some (.int (kx_b (0 ≤ c ∧ c ≤ 999)))]) (st' := []) (h' := kv_wd (kv_up g 64 1 (g 64 1 + 1)) w) rfl ?_
                  refine kx_st 2 (pc' := 83) (L' := [some (.ref 65), some (.int (nI k)), some (.int 1), some (.int c), some (.int (kx_b (0 ≤ c ∧ c ≤ 999)))]) (st' := [.int (-1000000001), .ref 65]) (h' := kv_wd (kv_up g 64 1 (g 64 1 + 1)) w) rfl ?_
                  refine kx_call (z := 131) (as := [.ref 65, .int (-1000000001)]) (rest := []) (v := some (.int (-1000000001))) (h1 := kv_wd (kv_up (kv_up g 64 1 (g 64 1 + 1)) 70 1 ((kv_up g 64 1 (g 64 1 + 1)) 70 1 + 1)) w) rfl (ev_errs (d := 898) (-1000000001) 1 (by decide) (by decide)) ?_
                  refine kx_st 0 (pc' := 86) (L' := [some (.ref 65), some (.int (nI k)), some (.int 1), some (.int c), some (.int (kx_b (0 ≤ c ∧ c ≤ 999)))]) (st' := [.int (-1000000001)]) (h' := kv_wd (kv_up (kv_up g 64 1 (g 64 1 + 1)) 70 1 ((kv_up g 64 1 (g 64 1 + 1)) 70 1 + 1)) w) rfl ?_
                  refine kx_ret (v := some (.int (-1000000001))) rfl ?_
                  exact ⟨rfl, _, _, rfl, kx_Rl_e hR⟩
      · by_cases hx : 0 ≤ c ∧ c ≤ 1
        · rcases kx_b1 hx with rfl | rfl
          · refine kx_two (by decide) (Nat.le_of_ble_eq_true rfl) (by decide) (Nat.le_of_ble_eq_true rfl) ?_
            refine kx_st 0 (pc' := 0) (L' := [some (.ref 0), some (.int (nI k)), some (.int 2), some (.int 0), none]) (st' := []) (h' := kv_wd g w) rfl ?_
            refine kx_st 3 (pc' := 5) (L' := [some (.ref 0), some (.int (nI k)), some (.int 2), some (.int 0), none]) (st' := [.int (nI k), .ref 1]) (h' := kv_wd g w) rfl ?_
            refine kx_call (z := 17) (as := [.ref 1, .int (nI k)]) (rest := []) (v := some (.ref (14 + k))) (h1 := kv_wd g w) rfl (ev_knotAt (d := 898) (g := g) q k hk8 hkn) ?_
            refine kx_st 0 (pc' := 8) (L' := [some (.ref 0), some (.int (nI k)), some (.int 2), some (.int 0), none]) (st' := [.ref (14 + k)]) (h' := kv_wd g w) rfl ?_
            refine kx_st 2 (pc' := 12) (L' := [some (.ref 0), some (.int (nI k)), some (.int 2), some (.int 0), some (.ref (14 + k))]) (st' := [.ref (14 + k)]) (h' := kv_wd g w) rfl ?_
            refine kx_st 1 (pc' := 15) (L' := [some (.ref 0), some (.int (nI k)), some (.int 2), some (.int 0), some (.ref (14 + k))]) (st' := []) (h' := kv_wd g w) rfl ?_
            refine kx_st 2 (pc' := 17) (L' := [some (.ref 0), some (.int (nI k)), some (.int 2), some (.int 0), some (.ref (14 + k))]) (st' := [.int 3, .int 2]) (h' := kv_wd g w) rfl ?_
            refine kx_call (z := 124) (as := [.int 2, .int 3]) (rest := []) (v := some (.int (kx_b (0 ≤ (2 : Int32) ∧ (2 : Int32) ≤ 3)))) (h1 := kv_wd g w) rfl (ev_within (d := 898) 2 3) ?_
            refine kx_st 0 (pc' := 20) (L' := [some (.ref 0), some (.int (nI k)), some (.int 2), some (.int 0), some (.ref (14 + k))]) (st' := [.int (kx_b (0 ≤ (2 : Int32) ∧ (2 : Int32) ≤ 3))]) (h' := kv_wd g w) rfl ?_
            refine kx_be (t := 34) rfl rfl (fun (h20 : ¬ (0 ≤ (2 : Int32) ∧ (2 : Int32) ≤ 3)) => ?_) (fun (h20 : (0 ≤ (2 : Int32) ∧ (2 : Int32) ≤ 3)) => ?_)
            · exact absurd hw h20
            · refine kx_st 0 (pc' := 23) (L' := [some (.ref 0), some (.int (nI k)), some (.int 2), some (.int 0), some (.ref (14 + k))]) (st' := []) (h' := kv_wd g w) rfl ?_
              refine kx_st 2 (pc' := 25) (L' := [some (.ref 0), some (.int (nI k)), some (.int 2), some (.int 0), some (.ref (14 + k))]) (st' := [.int 2, .int 0]) (h' := kv_wd g w) rfl ?_
              refine kx_call (z := 125) (as := [.int 2]) (rest := [.int 0]) (v := some (.int 1)) (h1 := kv_wd g w) rfl (ev_moc_2 (d := 898)) ?_
              refine kx_st 0 (pc' := 28) (L' := [some (.ref 0), some (.int (nI k)), some (.int 2), some (.int 0), some (.ref (14 + k))]) (st' := [.int 1, .int 0]) (h' := kv_wd g w) rfl ?_
              refine kx_call (z := 124) (as := [.int 0, .int 1]) (rest := []) (v := some (.int (kx_b (0 ≤ (0 : Int32) ∧ (0 : Int32) ≤ 1)))) (h1 := kv_wd g w) rfl (ev_within (d := 898) 0 1) ?_
              refine kx_st 0 (pc' := 31) (L' := [some (.ref 0), some (.int (nI k)), some (.int 2), some (.int 0), some (.ref (14 + k))]) (st' := [.int (kx_b (0 ≤ (0 : Int32) ∧ (0 : Int32) ≤ 1))]) (h' := kv_wd g w) rfl ?_
              refine kx_bn (t := 40) rfl rfl (fun (h31 : (0 ≤ (0 : Int32) ∧ (0 : Int32) ≤ 1)) => ?_) (fun (h31 : ¬ (0 ≤ (0 : Int32) ∧ (0 : Int32) ≤ 1)) => ?_)
              · refine kx_st 3 (pc' := 44) (L' := [some (.ref 0), some (.int (nI k)), some (.int 2), some (.int 0), some (.ref (14 + k))]) (st' := [.int 0, .int 2, .ref (14 + k)]) (h' := kv_wd g w) rfl ?_
                refine kx_call (z := 31) (as := [.ref (14 + k), .int 2, .int 0]) (rest := []) (v := some (.int (g (14 + k) 7))) (h1 := kv_wd (kv_up g (14 + k) 7 0) w) (kx_cv (b := 14 + k) (A := [.int 2, .int 0]) (rest := []) rfl rfl rfl rfl (Nat.le_of_ble_eq_true rfl) (kv_kn_h hk8).1 ((kv_kn_h hk8).2 _ _)) (ev_alter_2_0 (d := 898) k hk8 (by rw [kf 7 (by omega)]; exact q8)) ?_
                refine kx_st 0 (pc' := 47) (L' := [some (.ref 0), some (.int (nI k)), some (.int 2), some (.int 0), some (.ref (14 + k))]) (st' := [.int (g (14 + k) 7)]) (h' := kv_wd (kv_up g (14 + k) 7 0) w) rfl ?_
                refine kx_ret (v := some (.int (g (14 + k) 7))) rfl ?_
                refine ⟨_, _, _, rfl, rfl, ?_⟩
                refine kx_st 0 (pc' := 0) (L' := [some (.ref 65), some (.int (nI k)), some (.int 2), some (.int 0), none]) (st' := []) (h' := kv_wd (kv_up g (14 + k) 7 0) w) rfl ?_
                refine kx_st 1 (pc' := 1) (L' := [some (.ref 65), some (.int (nI k)), some (.int 2), some (.int 0), none]) (st' := [.int 2]) (h' := kv_wd (kv_up g (14 + k) 7 0) w) rfl ?_
                refine kx_st 1 (pc' := 15) (L' := [some (.ref 65), some (.int (nI k)), some (.int 2), some (.int 0), none]) (st' := []) (h' := kv_wd (kv_up g (14 + k) 7 0) w) rfl ?_
                refine kx_st 2 (pc' := 17) (L' := [some (.ref 65), some (.int (nI k)), some (.int 2), some (.int 0), none]) (st' := [.int 1, .int 2]) (h' := kv_wd (kv_up g (14 + k) 7 0) w) rfl ?_
                refine kx_st 1 (pc' := 31) (L' := [some (.ref 65), some (.int (nI k)), some (.int 2), some (.int 0), none]) (st' := []) (h' := kv_wd (kv_up g (14 + k) 7 0) w) rfl ?_
                refine kx_st 2 (pc' := 33) (L' := [some (.ref 65), some (.int (nI k)), some (.int 2), some (.int 0), none]) (st' := [.int 2, .int 2]) (h' := kv_wd (kv_up g (14 + k) 7 0) w) rfl ?_
                refine kx_st 1 (pc' := 36) (L' := [some (.ref 65), some (.int (nI k)), some (.int 2), some (.int 0), none]) (st' := []) (h' := kv_wd (kv_up g (14 + k) 7 0) w) rfl ?_
                refine kx_st 3 (pc' := 39) (L' := [some (.ref 65), some (.int (nI k)), some (.int 2), some (.int 0), none]) (st' := [.int 1, .int 0, .int 0]) (h' := kv_wd (kv_up g (14 + k) 7 0) w) rfl ?_
                refine kx_call (z := 130) (as := [.int 0, .int 0, .int 1]) (rest := []) (v := some (.int (kx_b (0 ≤ (0 : Int32) ∧ (0 : Int32) ≤ 1)))) (h1 := kv_wd (kv_up g (14 + k) 7 0) w) rfl (ev_in (d := 898) 0 0 1) ?_
                refine kx_st 0 (pc' := 42) (L' := [some (.ref 65), some (.int (nI k)), some (.int 2), some (.int 0), none]) (st' := [.int (kx_b (0 ≤ (0 : Int32) ∧ (0 : Int32) ≤ 1))]) (h' := kv_wd (kv_up g (14 + k) 7 0) w) rfl ?_
                refine kx_st 4 (pc' := 69) (L' := [some (.ref 65), some (.int (nI k)), some (.int 2), some (.int 0), some (.int (kx_b (0 ≤ (0 : Int32) ∧ (0 : Int32) ≤ 1)))]) (st' := [.int (nI k), .ref 65]) (h' := kv_wd (kv_up g (14 + k) 7 0) w) rfl ?_
                refine kx_call (z := 139) (as := [.ref 65, .int (nI k)]) (rest := []) (v := some (.int (kx_b (0 ≤ nI k ∧ nI k < nI m)))) (h1 := kv_wd (kv_up g (14 + k) 7 0) w) rfl (ev_mKnotS (d := 897) (g := kv_up g (14 + k) 7 0) (s := m) (by first | exact d2 | (rw [kv_up_ne (by omega)]; exact d2)) a4 (nI k)) ?_
                refine kx_st 0 (pc' := 72) (L' := [some (.ref 65), some (.int (nI k)), some (.int 2), some (.int 0), some (.int (kx_b (0 ≤ (0 : Int32) ∧ (0 : Int32) ≤ 1)))]) (st' := [.int (kx_b (0 ≤ nI k ∧ nI k < nI m))]) (h' := kv_wd (kv_up g (14 + k) 7 0) w) rfl ?_
                refine kx_be (t := 80) rfl rfl (fun (m72 : ¬ (0 ≤ nI k ∧ nI k < nI m)) => ?_) (fun (m72 : (0 ≤ nI k ∧ nI k < nI m)) => ?_)
                · exact absurd hv m72
                · refine kx_st 0 (pc' := 75) (L' := [some (.ref 65), some (.int (nI k)), some (.int 2), some (.int 0), some (.int (kx_b (0 ≤ (0 : Int32) ∧ (0 : Int32) ≤ 1)))]) (st' := []) (h' := kv_wd (kv_up g (14 + k) 7 0) w) rfl ?_
                  refine kx_st 1 (pc' := 77) (L' := [some (.ref 65), some (.int (nI k)), some (.int 2), some (.int 0), some (.int (kx_b (0 ≤ (0 : Int32) ∧ (0 : Int32) ≤ 1)))]) (st' := [.int (kx_b (0 ≤ (0 : Int32) ∧ (0 : Int32) ≤ 1))]) (h' := kv_wd (kv_up g (14 + k) 7 0) w) rfl ?_
                  refine kx_bn (t := 87) rfl rfl (fun (m77 : (0 ≤ (0 : Int32) ∧ (0 : Int32) ≤ 1)) => ?_) (fun (m77 : ¬ (0 ≤ (0 : Int32) ∧ (0 : Int32) ≤ 1)) => ?_)
                  · refine kx_st 7 (pc' := 96) (L' := [some (.ref 65), some (.int (nI k)), some (.int 2), some (.int 0), some (.int (kx_b (0 ≤ (0 : Int32) ∧ (0 : Int32) ≤ 1)))]) (st' := [.int 2, .int (26 + (9 * (nI k))), .ref 65]) (h' := kv_wd (kv_up g (14 + k) 7 0) w) rfl ?_
                    refine kx_st 1 (pc' := 103) (L' := [some (.ref 65), some (.int (nI k)), some (.int 2), some (.int 0), some (.int (kx_b (0 ≤ (0 : Int32) ∧ (0 : Int32) ≤ 1)))]) (st' := [.int (26 + (9 * (nI k))), .ref 65]) (h' := kv_wd (kv_up g (14 + k) 7 0) w) rfl ?_
                    refine kx_st 2 (pc' := 105) (L' := [some (.ref 65), some (.int (nI k)), some (.int 2), some (.int 0), some (.int (kx_b (0 ≤ (0 : Int32) ∧ (0 : Int32) ≤ 1)))]) (st' := [.int 1, .int 2, .int (26 + (9 * (nI k))), .ref 65]) (h' := kv_wd (kv_up g (14 + k) 7 0) w) rfl ?_
                    refine kx_st 1 (pc' := 112) (L' := [some (.ref 65), some (.int (nI k)), some (.int 2), some (.int 0), some (.int (kx_b (0 ≤ (0 : Int32) ∧ (0 : Int32) ≤ 1)))]) (st' := [.int (26 + (9 * (nI k))), .ref 65]) (h' := kv_wd (kv_up g (14 + k) 7 0) w) rfl ?_
                    refine kx_st 2 (pc' := 114) (L' := [some (.ref 65), some (.int (nI k)), some (.int 2), some (.int 0), some (.int (kx_b (0 ≤ (0 : Int32) ∧ (0 : Int32) ≤ 1)))]) (st' := [.int 2, .int 2, .int (26 + (9 * (nI k))), .ref 65]) (h' := kv_wd (kv_up g (14 + k) 7 0) w) rfl ?_
                    refine kx_st 1 (pc' := 117) (L' := [some (.ref 65), some (.int (nI k)), some (.int 2), some (.int 0), some (.int (kx_b (0 ≤ (0 : Int32) ∧ (0 : Int32) ≤ 1)))]) (st' := [.int (26 + (9 * (nI k))), .ref 65]) (h' := kv_wd (kv_up g (14 + k) 7 0) w) rfl ?_
                    refine kx_st 4 (pc' := 126) (L' := [some (.ref 65), some (.int (nI k)), some (.int 2), some (.int 0), some (.int (kx_b (0 ≤ (0 : Int32) ∧ (0 : Int32) ≤ 1)))]) (st' := [.int 0, .int ((26 + (9 * (nI k))) + 7), .ref 65]) (h' := kv_wd (kv_up g (14 + k) 7 0) w) rfl ?_
                    refine kx_call (z := 142) (as := [.ref 65, .int ((26 + (9 * (nI k))) + 7), .int 0]) (rest := []) (v := some (.int ((kv_up g (14 + k) 7 0) 66 (26 + 9 * k + 7)))) (h1 := kv_wd (kv_up (kv_up g (14 + k) 7 0) 66 (26 + 9 * k + 7) 0) w) rfl (by rw [show ((26 : Int32) + 9 * nI k) + 7 = nI (26 + 9 * k + 7) from kx_i26 k 7]; exact ev_becomes (d := 898) (26 + 9 * k + 7) (by omega) 0) ?_
                    refine kx_st 0 (pc' := 129) (L' := [some (.ref 65), some (.int (nI k)), some (.int 2), some (.int 0), some (.int (kx_b (0 ≤ (0 : Int32) ∧ (0 : Int32) ≤ 1)))]) (st' := [.int ((kv_up g (14 + k) 7 0) 66 (26 + 9 * k + 7))]) (h' := kv_wd (kv_up (kv_up g (14 + k) 7 0) 66 (26 + 9 * k + 7) 0) w) rfl ?_
                    refine kx_ret (v := some (.int ((kv_up g (14 + k) 7 0) 66 (26 + 9 * k + 7)))) rfl ?_
                    exact ⟨by rw [kf 7 (by omega), kv_up_ne (by omega)], _, _, rfl, kx_Rl_knot hR d2 a4 hkm (by omega) (fun z => absurd z (by decide)) (fun z => absurd z (by decide)) (by decide) (fun z => absurd z (by decide)) (fun z => absurd z (by decide)) (fun _ => by decide) (fun z => absurd z (by decide))⟩
                  · exact absurd hx m77
              · exact absurd hx h31
          · refine kx_two (by decide) (Nat.le_of_ble_eq_true rfl) (by decide) (Nat.le_of_ble_eq_true rfl) ?_
            refine kx_st 0 (pc' := 0) (L' := [some (.ref 0), some (.int (nI k)), some (.int 2), some (.int 1), none]) (st' := []) (h' := kv_wd g w) rfl ?_
            refine kx_st 3 (pc' := 5) (L' := [some (.ref 0), some (.int (nI k)), some (.int 2), some (.int 1), none]) (st' := [.int (nI k), .ref 1]) (h' := kv_wd g w) rfl ?_
            refine kx_call (z := 17) (as := [.ref 1, .int (nI k)]) (rest := []) (v := some (.ref (14 + k))) (h1 := kv_wd g w) rfl (ev_knotAt (d := 898) (g := g) q k hk8 hkn) ?_
            refine kx_st 0 (pc' := 8) (L' := [some (.ref 0), some (.int (nI k)), some (.int 2), some (.int 1), none]) (st' := [.ref (14 + k)]) (h' := kv_wd g w) rfl ?_
            refine kx_st 2 (pc' := 12) (L' := [some (.ref 0), some (.int (nI k)), some (.int 2), some (.int 1), some (.ref (14 + k))]) (st' := [.ref (14 + k)]) (h' := kv_wd g w) rfl ?_
            refine kx_st 1 (pc' := 15) (L' := [some (.ref 0), some (.int (nI k)), some (.int 2), some (.int 1), some (.ref (14 + k))]) (st' := []) (h' := kv_wd g w) rfl ?_
            refine kx_st 2 (pc' := 17) (L' := [some (.ref 0), some (.int (nI k)), some (.int 2), some (.int 1), some (.ref (14 + k))]) (st' := [.int 3, .int 2]) (h' := kv_wd g w) rfl ?_
            refine kx_call (z := 124) (as := [.int 2, .int 3]) (rest := []) (v := some (.int (kx_b (0 ≤ (2 : Int32) ∧ (2 : Int32) ≤ 3)))) (h1 := kv_wd g w) rfl (ev_within (d := 898) 2 3) ?_
            refine kx_st 0 (pc' := 20) (L' := [some (.ref 0), some (.int (nI k)), some (.int 2), some (.int 1), some (.ref (14 + k))]) (st' := [.int (kx_b (0 ≤ (2 : Int32) ∧ (2 : Int32) ≤ 3))]) (h' := kv_wd g w) rfl ?_
            refine kx_be (t := 34) rfl rfl (fun (h20 : ¬ (0 ≤ (2 : Int32) ∧ (2 : Int32) ≤ 3)) => ?_) (fun (h20 : (0 ≤ (2 : Int32) ∧ (2 : Int32) ≤ 3)) => ?_)
            · exact absurd hw h20
            · refine kx_st 0 (pc' := 23) (L' := [some (.ref 0), some (.int (nI k)), some (.int 2), some (.int 1), some (.ref (14 + k))]) (st' := []) (h' := kv_wd g w) rfl ?_
              refine kx_st 2 (pc' := 25) (L' := [some (.ref 0), some (.int (nI k)), some (.int 2), some (.int 1), some (.ref (14 + k))]) (st' := [.int 2, .int 1]) (h' := kv_wd g w) rfl ?_
              refine kx_call (z := 125) (as := [.int 2]) (rest := [.int 1]) (v := some (.int 1)) (h1 := kv_wd g w) rfl (ev_moc_2 (d := 898)) ?_
              refine kx_st 0 (pc' := 28) (L' := [some (.ref 0), some (.int (nI k)), some (.int 2), some (.int 1), some (.ref (14 + k))]) (st' := [.int 1, .int 1]) (h' := kv_wd g w) rfl ?_
              refine kx_call (z := 124) (as := [.int 1, .int 1]) (rest := []) (v := some (.int (kx_b (0 ≤ (1 : Int32) ∧ (1 : Int32) ≤ 1)))) (h1 := kv_wd g w) rfl (ev_within (d := 898) 1 1) ?_
              refine kx_st 0 (pc' := 31) (L' := [some (.ref 0), some (.int (nI k)), some (.int 2), some (.int 1), some (.ref (14 + k))]) (st' := [.int (kx_b (0 ≤ (1 : Int32) ∧ (1 : Int32) ≤ 1))]) (h' := kv_wd g w) rfl ?_
              refine kx_bn (t := 40) rfl rfl (fun (h31 : (0 ≤ (1 : Int32) ∧ (1 : Int32) ≤ 1)) => ?_) (fun (h31 : ¬ (0 ≤ (1 : Int32) ∧ (1 : Int32) ≤ 1)) => ?_)
              · refine kx_st 3 (pc' := 44) (L' := [some (.ref 0), some (.int (nI k)), some (.int 2), some (.int 1), some (.ref (14 + k))]) (st' := [.int 1, .int 2, .ref (14 + k)]) (h' := kv_wd g w) rfl ?_
                refine kx_call (z := 31) (as := [.ref (14 + k), .int 2, .int 1]) (rest := []) (v := some (.int (g (14 + k) 7))) (h1 := kv_wd (kv_up g (14 + k) 7 1) w) (kx_cv (b := 14 + k) (A := [.int 2, .int 1]) (rest := []) rfl rfl rfl rfl (Nat.le_of_ble_eq_true rfl) (kv_kn_h hk8).1 ((kv_kn_h hk8).2 _ _)) (ev_alter_2_1 (d := 898) k hk8 (by rw [kf 7 (by omega)]; exact q8)) ?_
                refine kx_st 0 (pc' := 47) (L' := [some (.ref 0), some (.int (nI k)), some (.int 2), some (.int 1), some (.ref (14 + k))]) (st' := [.int (g (14 + k) 7)]) (h' := kv_wd (kv_up g (14 + k) 7 1) w) rfl ?_
                refine kx_ret (v := some (.int (g (14 + k) 7))) rfl ?_
                refine ⟨_, _, _, rfl, rfl, ?_⟩
                refine kx_st 0 (pc' := 0) (L' := [some (.ref 65), some (.int (nI k)), some (.int 2), some (.int 1), none]) (st' := []) (h' := kv_wd (kv_up g (14 + k) 7 1) w) rfl ?_
                refine kx_st 1 (pc' := 1) (L' := [some (.ref 65), some (.int (nI k)), some (.int 2), some (.int 1), none]) (st' := [.int 2]) (h' := kv_wd (kv_up g (14 + k) 7 1) w) rfl ?_
                refine kx_st 1 (pc' := 15) (L' := [some (.ref 65), some (.int (nI k)), some (.int 2), some (.int 1), none]) (st' := []) (h' := kv_wd (kv_up g (14 + k) 7 1) w) rfl ?_
                refine kx_st 2 (pc' := 17) (L' := [some (.ref 65), some (.int (nI k)), some (.int 2), some (.int 1), none]) (st' := [.int 1, .int 2]) (h' := kv_wd (kv_up g (14 + k) 7 1) w) rfl ?_
                refine kx_st 1 (pc' := 31) (L' := [some (.ref 65), some (.int (nI k)), some (.int 2), some (.int 1), none]) (st' := []) (h' := kv_wd (kv_up g (14 + k) 7 1) w) rfl ?_
                refine kx_st 2 (pc' := 33) (L' := [some (.ref 65), some (.int (nI k)), some (.int 2), some (.int 1), none]) (st' := [.int 2, .int 2]) (h' := kv_wd (kv_up g (14 + k) 7 1) w) rfl ?_
                refine kx_st 1 (pc' := 36) (L' := [some (.ref 65), some (.int (nI k)), some (.int 2), some (.int 1), none]) (st' := []) (h' := kv_wd (kv_up g (14 + k) 7 1) w) rfl ?_
                refine kx_st 3 (pc' := 39) (L' := [some (.ref 65), some (.int (nI k)), some (.int 2), some (.int 1), none]) (st' := [.int 1, .int 0, .int 1]) (h' := kv_wd (kv_up g (14 + k) 7 1) w) rfl ?_
                refine kx_call (z := 130) (as := [.int 1, .int 0, .int 1]) (rest := []) (v := some (.int (kx_b (0 ≤ (1 : Int32) ∧ (1 : Int32) ≤ 1)))) (h1 := kv_wd (kv_up g (14 + k) 7 1) w) rfl (ev_in (d := 898) 1 0 1) ?_
                refine kx_st 0 (pc' := 42) (L' := [some (.ref 65), some (.int (nI k)), some (.int 2), some (.int 1), none]) (st' := [.int (kx_b (0 ≤ (1 : Int32) ∧ (1 : Int32) ≤ 1))]) (h' := kv_wd (kv_up g (14 + k) 7 1) w) rfl ?_
                refine kx_st 4 (pc' := 69) (L' := [some (.ref 65), some (.int (nI k)), some (.int 2), some (.int 1), some (.int (kx_b (0 ≤ (1 : Int32) ∧ (1 : Int32) ≤ 1)))]) (st' := [.int (nI k), .ref 65]) (h' := kv_wd (kv_up g (14 + k) 7 1) w) rfl ?_
                refine kx_call (z := 139) (as := [.ref 65, .int (nI k)]) (rest := []) (v := some (.int (kx_b (0 ≤ nI k ∧ nI k < nI m)))) (h1 := kv_wd (kv_up g (14 + k) 7 1) w) rfl (ev_mKnotS (d := 897) (g := kv_up g (14 + k) 7 1) (s := m) (by first | exact d2 | (rw [kv_up_ne (by omega)]; exact d2)) a4 (nI k)) ?_
                refine kx_st 0 (pc' := 72) (L' := [some (.ref 65), some (.int (nI k)), some (.int 2), some (.int 1), some (.int (kx_b (0 ≤ (1 : Int32) ∧ (1 : Int32) ≤ 1)))]) (st' := [.int (kx_b (0 ≤ nI k ∧ nI k < nI m))]) (h' := kv_wd (kv_up g (14 + k) 7 1) w) rfl ?_
                refine kx_be (t := 80) rfl rfl (fun (m72 : ¬ (0 ≤ nI k ∧ nI k < nI m)) => ?_) (fun (m72 : (0 ≤ nI k ∧ nI k < nI m)) => ?_)
                · exact absurd hv m72
                · refine kx_st 0 (pc' := 75) (L' := [some (.ref 65), some (.int (nI k)), some (.int 2), some (.int 1), some (.int (kx_b (0 ≤ (1 : Int32) ∧ (1 : Int32) ≤ 1)))]) (st' := []) (h' := kv_wd (kv_up g (14 + k) 7 1) w) rfl ?_
                  refine kx_st 1 (pc' := 77) (L' := [some (.ref 65), some (.int (nI k)), some (.int 2), some (.int 1), some (.int (kx_b (0 ≤ (1 : Int32) ∧ (1 : Int32) ≤ 1)))]) (st' := [.int (kx_b (0 ≤ (1 : Int32) ∧ (1 : Int32) ≤ 1))]) (h' := kv_wd (kv_up g (14 + k) 7 1) w) rfl ?_
                  refine kx_bn (t := 87) rfl rfl (fun (m77 : (0 ≤ (1 : Int32) ∧ (1 : Int32) ≤ 1)) => ?_) (fun (m77 : ¬ (0 ≤ (1 : Int32) ∧ (1 : Int32) ≤ 1)) => ?_)
                  · refine kx_st 7 (pc' := 96) (L' := [some (.ref 65), some (.int (nI k)), some (.int 2), some (.int 1), some (.int (kx_b (0 ≤ (1 : Int32) ∧ (1 : Int32) ≤ 1)))]) (st' := [.int 2, .int (26 + (9 * (nI k))), .ref 65]) (h' := kv_wd (kv_up g (14 + k) 7 1) w) rfl ?_
                    refine kx_st 1 (pc' := 103) (L' := [some (.ref 65), some (.int (nI k)), some (.int 2), some (.int 1), some (.int (kx_b (0 ≤ (1 : Int32) ∧ (1 : Int32) ≤ 1)))]) (st' := [.int (26 + (9 * (nI k))), .ref 65]) (h' := kv_wd (kv_up g (14 + k) 7 1) w) rfl ?_
                    refine kx_st 2 (pc' := 105) (L' := [some (.ref 65), some (.int (nI k)), some (.int 2), some (.int 1), some (.int (kx_b (0 ≤ (1 : Int32) ∧ (1 : Int32) ≤ 1)))]) (st' := [.int 1, .int 2, .int (26 + (9 * (nI k))), .ref 65]) (h' := kv_wd (kv_up g (14 + k) 7 1) w) rfl ?_
                    refine kx_st 1 (pc' := 112) (L' := [some (.ref 65), some (.int (nI k)), some (.int 2), some (.int 1), some (.int (kx_b (0 ≤ (1 : Int32) ∧ (1 : Int32) ≤ 1)))]) (st' := [.int (26 + (9 * (nI k))), .ref 65]) (h' := kv_wd (kv_up g (14 + k) 7 1) w) rfl ?_
                    refine kx_st 2 (pc' := 114) (L' := [some (.ref 65), some (.int (nI k)), some (.int 2), some (.int 1), some (.int (kx_b (0 ≤ (1 : Int32) ∧ (1 : Int32) ≤ 1)))]) (st' := [.int 2, .int 2, .int (26 + (9 * (nI k))), .ref 65]) (h' := kv_wd (kv_up g (14 + k) 7 1) w) rfl ?_
                    refine kx_st 1 (pc' := 117) (L' := [some (.ref 65), some (.int (nI k)), some (.int 2), some (.int 1), some (.int (kx_b (0 ≤ (1 : Int32) ∧ (1 : Int32) ≤ 1)))]) (st' := [.int (26 + (9 * (nI k))), .ref 65]) (h' := kv_wd (kv_up g (14 + k) 7 1) w) rfl ?_
                    refine kx_st 4 (pc' := 126) (L' := [some (.ref 65), some (.int (nI k)), some (.int 2), some (.int 1), some (.int (kx_b (0 ≤ (1 : Int32) ∧ (1 : Int32) ≤ 1)))]) (st' := [.int 1, .int ((26 + (9 * (nI k))) + 7), .ref 65]) (h' := kv_wd (kv_up g (14 + k) 7 1) w) rfl ?_
                    refine kx_call (z := 142) (as := [.ref 65, .int ((26 + (9 * (nI k))) + 7), .int 1]) (rest := []) (v := some (.int ((kv_up g (14 + k) 7 1) 66 (26 + 9 * k + 7)))) (h1 := kv_wd (kv_up (kv_up g (14 + k) 7 1) 66 (26 + 9 * k + 7) 1) w) rfl (by rw [show ((26 : Int32) + 9 * nI k) + 7 = nI (26 + 9 * k + 7) from kx_i26 k 7]; exact ev_becomes (d := 898) (26 + 9 * k + 7) (by omega) 1) ?_
                    refine kx_st 0 (pc' := 129) (L' := [some (.ref 65), some (.int (nI k)), some (.int 2), some (.int 1), some (.int (kx_b (0 ≤ (1 : Int32) ∧ (1 : Int32) ≤ 1)))]) (st' := [.int ((kv_up g (14 + k) 7 1) 66 (26 + 9 * k + 7))]) (h' := kv_wd (kv_up (kv_up g (14 + k) 7 1) 66 (26 + 9 * k + 7) 1) w) rfl ?_
                    refine kx_ret (v := some (.int ((kv_up g (14 + k) 7 1) 66 (26 + 9 * k + 7)))) rfl ?_
                    exact ⟨by rw [kf 7 (by omega), kv_up_ne (by omega)], _, _, rfl, kx_Rl_knot hR d2 a4 hkm (by omega) (fun z => absurd z (by decide)) (fun z => absurd z (by decide)) (by decide) (fun z => absurd z (by decide)) (fun z => absurd z (by decide)) (fun _ => by decide) (fun z => absurd z (by decide))⟩
                  · exact absurd hx m77
              · exact absurd hx h31
        · refine kx_two (by decide) (Nat.le_of_ble_eq_true rfl) (by decide) (Nat.le_of_ble_eq_true rfl) ?_
          refine kx_st 0 (pc' := 0) (L' := [some (.ref 0), some (.int (nI k)), some (.int 2), some (.int c), none]) (st' := []) (h' := kv_wd g w) rfl ?_
          refine kx_st 3 (pc' := 5) (L' := [some (.ref 0), some (.int (nI k)), some (.int 2), some (.int c), none]) (st' := [.int (nI k), .ref 1]) (h' := kv_wd g w) rfl ?_
          refine kx_call (z := 17) (as := [.ref 1, .int (nI k)]) (rest := []) (v := some (.ref (14 + k))) (h1 := kv_wd g w) rfl (ev_knotAt (d := 898) (g := g) q k hk8 hkn) ?_
          refine kx_st 0 (pc' := 8) (L' := [some (.ref 0), some (.int (nI k)), some (.int 2), some (.int c), none]) (st' := [.ref (14 + k)]) (h' := kv_wd g w) rfl ?_
          refine kx_st 2 (pc' := 12) (L' := [some (.ref 0), some (.int (nI k)), some (.int 2), some (.int c), some (.ref (14 + k))]) (st' := [.ref (14 + k)]) (h' := kv_wd g w) rfl ?_
          refine kx_st 1 (pc' := 15) (L' := [some (.ref 0), some (.int (nI k)), some (.int 2), some (.int c), some (.ref (14 + k))]) (st' := []) (h' := kv_wd g w) rfl ?_
          refine kx_st 2 (pc' := 17) (L' := [some (.ref 0), some (.int (nI k)), some (.int 2), some (.int c), some (.ref (14 + k))]) (st' := [.int 3, .int 2]) (h' := kv_wd g w) rfl ?_
          refine kx_call (z := 124) (as := [.int 2, .int 3]) (rest := []) (v := some (.int (kx_b (0 ≤ (2 : Int32) ∧ (2 : Int32) ≤ 3)))) (h1 := kv_wd g w) rfl (ev_within (d := 898) 2 3) ?_
          refine kx_st 0 (pc' := 20) (L' := [some (.ref 0), some (.int (nI k)), some (.int 2), some (.int c), some (.ref (14 + k))]) (st' := [.int (kx_b (0 ≤ (2 : Int32) ∧ (2 : Int32) ≤ 3))]) (h' := kv_wd g w) rfl ?_
          refine kx_be (t := 34) rfl rfl (fun (h20 : ¬ (0 ≤ (2 : Int32) ∧ (2 : Int32) ≤ 3)) => ?_) (fun (h20 : (0 ≤ (2 : Int32) ∧ (2 : Int32) ≤ 3)) => ?_)
          · exact absurd hw h20
          · refine kx_st 0 (pc' := 23) (L' := [some (.ref 0), some (.int (nI k)), some (.int 2), some (.int c), some (.ref (14 + k))]) (st' := []) (h' := kv_wd g w) rfl ?_
            refine kx_st 2 (pc' := 25) (L' := [some (.ref 0), some (.int (nI k)), some (.int 2), some (.int c), some (.ref (14 + k))]) (st' := [.int 2, .int c]) (h' := kv_wd g w) rfl ?_
            refine kx_call (z := 125) (as := [.int 2]) (rest := [.int c]) (v := some (.int 1)) (h1 := kv_wd g w) rfl (ev_moc_2 (d := 898)) ?_
            refine kx_st 0 (pc' := 28) (L' := [some (.ref 0), some (.int (nI k)), some (.int 2), some (.int c), some (.ref (14 + k))]) (st' := [.int 1, .int c]) (h' := kv_wd g w) rfl ?_
            refine kx_call (z := 124) (as := [.int c, .int 1]) (rest := []) (v := some (.int (kx_b (0 ≤ c ∧ c ≤ 1)))) (h1 := kv_wd g w) rfl (ev_within (d := 898) c 1) ?_
            refine kx_st 0 (pc' := 31) (L' := [some (.ref 0), some (.int (nI k)), some (.int 2), some (.int c), some (.ref (14 + k))]) (st' := [.int (kx_b (0 ≤ c ∧ c ≤ 1))]) (h' := kv_wd g w) rfl ?_
            refine kx_bn (t := 40) rfl rfl (fun (h31 : (0 ≤ c ∧ c ≤ 1)) => ?_) (fun (h31 : ¬ (0 ≤ c ∧ c ≤ 1)) => ?_)
            · exact absurd h31 hx
            · refine kx_st 0 (pc' := 34) (L' := [some (.ref 0), some (.int (nI k)), some (.int 2), some (.int c), some (.ref (14 + k))]) (st' := []) (h' := kv_wd g w) rfl ?_
              refine kx_st 2 (pc' := 36) (L' := [some (.ref 0), some (.int (nI k)), some (.int 2), some (.int c), some (.ref (14 + k))]) (st' := [.int 1, .ref 0]) (h' := kv_wd g w) rfl ?_
              refine kx_call (z := 123) (as := [.ref 0, .int 1]) (rest := []) (v := some (.int (-1000000000 - nI 1))) (h1 := kv_wd (kv_up g 64 1 (g 64 1 + 1)) w) rfl (ev_error (d := 898) 1 (by decide) (by decide)) ?_
              refine kx_st 0 (pc' := 39) (L' := [some (.ref 0), some (.int (nI k)), some (.int 2), some (.int c), some (.ref (14 + k))]) (st' := [.int (-1000000000 - nI 1)]) (h' := kv_wd (kv_up g 64 1 (g 64 1 + 1)) w) rfl ?_
              refine kx_ret (v := some (.int (-1000000000 - nI 1))) rfl ?_
              refine ⟨_, _, _, rfl, rfl, ?_⟩
              refine kx_st 0 (pc' := 0) (L' := [some (.ref 65), some (.int (nI k)), some (.int 2), some (.int c), none]) (st' := []) (h' := kv_wd (kv_up g 64 1 (g 64 1 + 1)) w) rfl ?_
              refine kx_st 1 (pc' := 1) (L' := [some (.ref 65), some (.int (nI k)), some (.int 2), some (.int c), none]) (st' := [.int 2]) (h' := kv_wd (kv_up g 64 1 (g 64 1 + 1)) w) rfl ?_
              refine kx_st 1 (pc' := 15) (L' := [some (.ref 65), some (.int (nI k)), some (.int 2), some (.int c), none]) (st' := []) (h' := kv_wd (kv_up g 64 1 (g 64 1 + 1)) w) rfl ?_
              refine kx_st 2 (pc' := 17) (L' := [some (.ref 65), some (.int (nI k)), some (.int 2), some (.int c), none]) (st' := [.int 1, .int 2]) (h' := kv_wd (kv_up g 64 1 (g 64 1 + 1)) w) rfl ?_
              refine kx_st 1 (pc' := 31) (L' := [some (.ref 65), some (.int (nI k)), some (.int 2), some (.int c), none]) (st' := []) (h' := kv_wd (kv_up g 64 1 (g 64 1 + 1)) w) rfl ?_
              refine kx_st 2 (pc' := 33) (L' := [some (.ref 65), some (.int (nI k)), some (.int 2), some (.int c), none]) (st' := [.int 2, .int 2]) (h' := kv_wd (kv_up g 64 1 (g 64 1 + 1)) w) rfl ?_
              refine kx_st 1 (pc' := 36) (L' := [some (.ref 65), some (.int (nI k)), some (.int 2), some (.int c), none]) (st' := []) (h' := kv_wd (kv_up g 64 1 (g 64 1 + 1)) w) rfl ?_
              refine kx_st 3 (pc' := 39) (L' := [some (.ref 65), some (.int (nI k)), some (.int 2), some (.int c), none]) (st' := [.int 1, .int 0, .int c]) (h' := kv_wd (kv_up g 64 1 (g 64 1 + 1)) w) rfl ?_
              refine kx_call (z := 130) (as := [.int c, .int 0, .int 1]) (rest := []) (v := some (.int (kx_b (0 ≤ c ∧ c ≤ 1)))) (h1 := kv_wd (kv_up g 64 1 (g 64 1 + 1)) w) rfl (ev_in (d := 898) c 0 1) ?_
              refine kx_st 0 (pc' := 42) (L' := [some (.ref 65), some (.int (nI k)), some (.int 2), some (.int c), none]) (st' := [.int (kx_b (0 ≤ c ∧ c ≤ 1))]) (h' := kv_wd (kv_up g 64 1 (g 64 1 + 1)) w) rfl ?_
              refine kx_st 4 (pc' := 69) (L' := [some (.ref 65), some (.int (nI k)), some (.int 2), some (.int c), some (.int (kx_b (0 ≤ c ∧ c ≤ 1)))]) (st' := [.int (nI k), .ref 65]) (h' := kv_wd (kv_up g 64 1 (g 64 1 + 1)) w) rfl ?_
              refine kx_call (z := 139) (as := [.ref 65, .int (nI k)]) (rest := []) (v := some (.int (kx_b (0 ≤ nI k ∧ nI k < nI m)))) (h1 := kv_wd (kv_up g 64 1 (g 64 1 + 1)) w) rfl (ev_mKnotS (d := 897) (g := kv_up g 64 1 (g 64 1 + 1)) (s := m) (by first | exact d2 | (rw [kv_up_ne (by omega)]; exact d2)) a4 (nI k)) ?_
              refine kx_st 0 (pc' := 72) (L' := [some (.ref 65), some (.int (nI k)), some (.int 2), some (.int c), some (.int (kx_b (0 ≤ c ∧ c ≤ 1)))]) (st' := [.int (kx_b (0 ≤ nI k ∧ nI k < nI m))]) (h' := kv_wd (kv_up g 64 1 (g 64 1 + 1)) w) rfl ?_
              refine kx_be (t := 80) rfl rfl (fun (m72 : ¬ (0 ≤ nI k ∧ nI k < nI m)) => ?_) (fun (m72 : (0 ≤ nI k ∧ nI k < nI m)) => ?_)
              · exact absurd hv m72
              · refine kx_st 0 (pc' := 75) (L' := [some (.ref 65), some (.int (nI k)), some (.int 2), some (.int c), some (.int (kx_b (0 ≤ c ∧ c ≤ 1)))]) (st' := []) (h' := kv_wd (kv_up g 64 1 (g 64 1 + 1)) w) rfl ?_
                refine kx_st 1 (pc' := 77) (L' := [some (.ref 65), some (.int (nI k)), some (.int 2), some (.int c), some (.int (kx_b (0 ≤ c ∧ c ≤ 1)))]) (st' := [.int (kx_b (0 ≤ c ∧ c ≤ 1))]) (h' := kv_wd (kv_up g 64 1 (g 64 1 + 1)) w) rfl ?_
                refine kx_bn (t := 87) rfl rfl (fun (m77 : (0 ≤ c ∧ c ≤ 1)) => ?_) (fun (m77 : ¬ (0 ≤ c ∧ c ≤ 1)) => ?_)
                · exact absurd m77 hx
                · refine kx_st 0 (pc' := 80) (L' := [some (.ref 65), some (.int (nI k)), some (.int 2), some (.int c), some (.int (kx_b (0 ≤ c ∧ c ≤ 1)))]) (st' := []) (h' := kv_wd (kv_up g 64 1 (g 64 1 + 1)) w) rfl ?_
                  refine kx_st 2 (pc' := 83) (L' := [some (.ref 65), some (.int (nI k)), some (.int 2), some (.int c), some (.int (kx_b (0 ≤ c ∧ c ≤ 1)))]) (st' := [.int (-1000000001), .ref 65]) (h' := kv_wd (kv_up g 64 1 (g 64 1 + 1)) w) rfl ?_
                  refine kx_call (z := 131) (as := [.ref 65, .int (-1000000001)]) (rest := []) (v := some (.int (-1000000001))) (h1 := kv_wd (kv_up (kv_up g 64 1 (g 64 1 + 1)) 70 1 ((kv_up g 64 1 (g 64 1 + 1)) 70 1 + 1)) w) rfl (ev_errs (d := 898) (-1000000001) 1 (by decide) (by decide)) ?_
                  refine kx_st 0 (pc' := 86) (L' := [some (.ref 65), some (.int (nI k)), some (.int 2), some (.int c), some (.int (kx_b (0 ≤ c ∧ c ≤ 1)))]) (st' := [.int (-1000000001)]) (h' := kv_wd (kv_up (kv_up g 64 1 (g 64 1 + 1)) 70 1 ((kv_up g 64 1 (g 64 1 + 1)) 70 1 + 1)) w) rfl ?_
                  refine kx_ret (v := some (.int (-1000000001))) rfl ?_
                  exact ⟨rfl, _, _, rfl, kx_Rl_e hR⟩
      · by_cases hx : 0 ≤ c ∧ c ≤ 99
        · obtain ⟨x, hx9, rfl⟩ := kx_nIof (n := 99) hx.1 hx.2 (by omega)
          refine kx_two (by decide) (Nat.le_of_ble_eq_true rfl) (by decide) (Nat.le_of_ble_eq_true rfl) ?_
          refine kx_st 0 (pc' := 0) (L' := [some (.ref 0), some (.int (nI k)), some (.int 3), some (.int (nI x)), none]) (st' := []) (h' := kv_wd g w) rfl ?_
          refine kx_st 3 (pc' := 5) (L' := [some (.ref 0), some (.int (nI k)), some (.int 3), some (.int (nI x)), none]) (st' := [.int (nI k), .ref 1]) (h' := kv_wd g w) rfl ?_
          refine kx_call (z := 17) (as := [.ref 1, .int (nI k)]) (rest := []) (v := some (.ref (14 + k))) (h1 := kv_wd g w) rfl (ev_knotAt (d := 898) (g := g) q k hk8 hkn) ?_
          refine kx_st 0 (pc' := 8) (L' := [some (.ref 0), some (.int (nI k)), some (.int 3), some (.int (nI x)), none]) (st' := [.ref (14 + k)]) (h' := kv_wd g w) rfl ?_
          refine kx_st 2 (pc' := 12) (L' := [some (.ref 0), some (.int (nI k)), some (.int 3), some (.int (nI x)), some (.ref (14 + k))]) (st' := [.ref (14 + k)]) (h' := kv_wd g w) rfl ?_
          refine kx_st 1 (pc' := 15) (L' := [some (.ref 0), some (.int (nI k)), some (.int 3), some (.int (nI x)), some (.ref (14 + k))]) (st' := []) (h' := kv_wd g w) rfl ?_
          refine kx_st 2 (pc' := 17) (L' := [some (.ref 0), some (.int (nI k)), some (.int 3), some (.int (nI x)), some (.ref (14 + k))]) (st' := [.int 3, .int 3]) (h' := kv_wd g w) rfl ?_
          refine kx_call (z := 124) (as := [.int 3, .int 3]) (rest := []) (v := some (.int (kx_b (0 ≤ (3 : Int32) ∧ (3 : Int32) ≤ 3)))) (h1 := kv_wd g w) rfl (ev_within (d := 898) 3 3) ?_
          refine kx_st 0 (pc' := 20) (L' := [some (.ref 0), some (.int (nI k)), some (.int 3), some (.int (nI x)), some (.ref (14 + k))]) (st' := [.int (kx_b (0 ≤ (3 : Int32) ∧ (3 : Int32) ≤ 3))]) (h' := kv_wd g w) rfl ?_
          refine kx_be (t := 34) rfl rfl (fun (h20 : ¬ (0 ≤ (3 : Int32) ∧ (3 : Int32) ≤ 3)) => ?_) (fun (h20 : (0 ≤ (3 : Int32) ∧ (3 : Int32) ≤ 3)) => ?_)
          · exact absurd hw h20
          · refine kx_st 0 (pc' := 23) (L' := [some (.ref 0), some (.int (nI k)), some (.int 3), some (.int (nI x)), some (.ref (14 + k))]) (st' := []) (h' := kv_wd g w) rfl ?_
            refine kx_st 2 (pc' := 25) (L' := [some (.ref 0), some (.int (nI k)), some (.int 3), some (.int (nI x)), some (.ref (14 + k))]) (st' := [.int 3, .int (nI x)]) (h' := kv_wd g w) rfl ?_
            refine kx_call (z := 125) (as := [.int 3]) (rest := [.int (nI x)]) (v := some (.int 99)) (h1 := kv_wd g w) rfl (ev_moc_3 (d := 898)) ?_
            refine kx_st 0 (pc' := 28) (L' := [some (.ref 0), some (.int (nI k)), some (.int 3), some (.int (nI x)), some (.ref (14 + k))]) (st' := [.int 99, .int (nI x)]) (h' := kv_wd g w) rfl ?_
            refine kx_call (z := 124) (as := [.int (nI x), .int 99]) (rest := []) (v := some (.int (kx_b (0 ≤ nI x ∧ nI x ≤ 99)))) (h1 := kv_wd g w) rfl (ev_within (d := 898) (nI x) 99) ?_
            refine kx_st 0 (pc' := 31) (L' := [some (.ref 0), some (.int (nI k)), some (.int 3), some (.int (nI x)), some (.ref (14 + k))]) (st' := [.int (kx_b (0 ≤ nI x ∧ nI x ≤ 99))]) (h' := kv_wd g w) rfl ?_
            refine kx_bn (t := 40) rfl rfl (fun (h31 : (0 ≤ nI x ∧ nI x ≤ 99)) => ?_) (fun (h31 : ¬ (0 ≤ nI x ∧ nI x ≤ 99)) => ?_)
            · refine kx_st 3 (pc' := 44) (L' := [some (.ref 0), some (.int (nI k)), some (.int 3), some (.int (nI x)), some (.ref (14 + k))]) (st' := [.int (nI x), .int 3, .ref (14 + k)]) (h' := kv_wd g w) rfl ?_
              refine kx_call (z := 31) (as := [.ref (14 + k), .int 3, .int (nI x)]) (rest := []) (v := some (.int (g (14 + k) 8))) (h1 := kv_wd (kv_up g (14 + k) 8 (nI x)) w) (kx_cv (b := 14 + k) (A := [.int 3, .int (nI x)]) (rest := []) rfl rfl rfl rfl (Nat.le_of_ble_eq_true rfl) (kv_kn_h hk8).1 ((kv_kn_h hk8).2 _ _)) (ev_alter_3 (d := 898) k hk8 (nI x)) ?_
              refine kx_st 0 (pc' := 47) (L' := [some (.ref 0), some (.int (nI k)), some (.int 3), some (.int (nI x)), some (.ref (14 + k))]) (st' := [.int (g (14 + k) 8)]) (h' := kv_wd (kv_up g (14 + k) 8 (nI x)) w) rfl ?_
              refine kx_ret (v := some (.int (g (14 + k) 8))) rfl ?_
              refine ⟨_, _, _, rfl, rfl, ?_⟩
              refine kx_st 0 (pc' := 0) (L' := [some (.ref 65), some (.int (nI k)), some (.int 3), some (.int (nI x)), none]) (st' := []) (h' := kv_wd (kv_up g (14 + k) 8 (nI x)) w) rfl ?_
              refine kx_st 1 (pc' := 1) (L' := [some (.ref 65), some (.int (nI k)), some (.int 3), some (.int (nI x)), none]) (st' := [.int 3]) (h' := kv_wd (kv_up g (14 + k) 8 (nI x)) w) rfl ?_
              refine kx_st 1 (pc' := 15) (L' := [some (.ref 65), some (.int (nI k)), some (.int 3), some (.int (nI x)), none]) (st' := []) (h' := kv_wd (kv_up g (14 + k) 8 (nI x)) w) rfl ?_
              refine kx_st 2 (pc' := 17) (L' := [some (.ref 65), some (.int (nI k)), some (.int 3), some (.int (nI x)), none]) (st' := [.int 1, .int 3]) (h' := kv_wd (kv_up g (14 + k) 8 (nI x)) w) rfl ?_
              refine kx_st 1 (pc' := 31) (L' := [some (.ref 65), some (.int (nI k)), some (.int 3), some (.int (nI x)), none]) (st' := []) (h' := kv_wd (kv_up g (14 + k) 8 (nI x)) w) rfl ?_
              refine kx_st 2 (pc' := 33) (L' := [some (.ref 65), some (.int (nI k)), some (.int 3), some (.int (nI x)), none]) (st' := [.int 2, .int 3]) (h' := kv_wd (kv_up g (14 + k) 8 (nI x)) w) rfl ?_
              refine kx_st 1 (pc' := 45) (L' := [some (.ref 65), some (.int (nI k)), some (.int 3), some (.int (nI x)), none]) (st' := []) (h' := kv_wd (kv_up g (14 + k) 8 (nI x)) w) rfl ?_
              refine kx_st 2 (pc' := 47) (L' := [some (.ref 65), some (.int (nI k)), some (.int 3), some (.int (nI x)), none]) (st' := [.int 3, .int 3]) (h' := kv_wd (kv_up g (14 + k) 8 (nI x)) w) rfl ?_
              refine kx_st 1 (pc' := 50) (L' := [some (.ref 65), some (.int (nI k)), some (.int 3), some (.int (nI x)), none]) (st' := []) (h' := kv_wd (kv_up g (14 + k) 8 (nI x)) w) rfl ?_
              refine kx_st 3 (pc' := 54) (L' := [some (.ref 65), some (.int (nI k)), some (.int 3), some (.int (nI x)), none]) (st' := [.int 99, .int 0, .int (nI x)]) (h' := kv_wd (kv_up g (14 + k) 8 (nI x)) w) rfl ?_
              refine kx_call (z := 130) (as := [.int (nI x), .int 0, .int 99]) (rest := []) (v := some (.int (kx_b (0 ≤ nI x ∧ nI x ≤ 99)))) (h1 := kv_wd (kv_up g (14 + k) 8 (nI x)) w) rfl (ev_in (d := 898) (nI x) 0 99) ?_
              refine kx_st 0 (pc' := 57) (L' := [some (.ref 65), some (.int (nI k)), some (.int 3), some (.int (nI x)), none]) (st' := [.int (kx_b (0 ≤ nI x ∧ nI x ≤ 99))]) (h' := kv_wd (kv_up g (14 + k) 8 (nI x)) w) rfl ?_
              refine kx_be (t := 64) rfl rfl (fun (m57 : ¬ (0 ≤ nI x ∧ nI x ≤ 99)) => ?_) (fun (m57 : (0 ≤ nI x ∧ nI x ≤ 99)) => ?_)
              · exact absurd hx m57
              · refine kx_st 0 (pc' := 60) (L' := [some (.ref 65), some (.int (nI k)), some (.int 3), some (.int (nI x)), none]) (st' := []) (h' := kv_wd (kv_up g (14 + k) 8 (nI x)) w) rfl ?_
                refine kx_st 5 (pc' := 69) (L' := [some (.ref 65), some (.int (nI k)), some (.int 3), some (.int (nI x)), some (.int 1)]) (st' := [.int (nI k), .ref 65]) (h' := kv_wd (kv_up g (14 + k) 8 (nI x)) w) rfl ?_
                refine kx_call (z := 139) (as := [.ref 65, .int (nI k)]) (rest := []) (v := some (.int (kx_b (0 ≤ nI k ∧ nI k < nI m)))) (h1 := kv_wd (kv_up g (14 + k) 8 (nI x)) w) rfl (ev_mKnotS (d := 897) (g := kv_up g (14 + k) 8 (nI x)) (s := m) (by first | exact d2 | (rw [kv_up_ne (by omega)]; exact d2)) a4 (nI k)) ?_
                refine kx_st 0 (pc' := 72) (L' := [some (.ref 65), some (.int (nI k)), some (.int 3), some (.int (nI x)), some (.int 1)]) (st' := [.int (kx_b (0 ≤ nI k ∧ nI k < nI m))]) (h' := kv_wd (kv_up g (14 + k) 8 (nI x)) w) rfl ?_
                refine kx_be (t := 80) rfl rfl (fun (m72 : ¬ (0 ≤ nI k ∧ nI k < nI m)) => ?_) (fun (m72 : (0 ≤ nI k ∧ nI k < nI m)) => ?_)
                · exact absurd hv m72
                · refine kx_st 0 (pc' := 75) (L' := [some (.ref 65), some (.int (nI k)), some (.int 3), some (.int (nI x)), some (.int 1)]) (st' := []) (h' := kv_wd (kv_up g (14 + k) 8 (nI x)) w) rfl ?_
                  refine kx_st 1 (pc' := 77) (L' := [some (.ref 65), some (.int (nI k)), some (.int 3), some (.int (nI x)), some (.int 1)]) (st' := [.int 1]) (h' := kv_wd (kv_up g (14 + k) 8 (nI x)) w) rfl ?_
                  refine kx_st 1 (pc' := 87) (L' := [some (.ref 65), some (.int (nI k)), some (.int 3), some (.int (nI x)), some (.int 1)]) (st' := []) (h' := kv_wd (kv_up g (14 + k) 8 (nI x)) w) rfl ?_
                  refine kx_st 7 (pc' := 96) (L' := [some (.ref 65), some (.int (nI k)), some (.int 3), some (.int (nI x)), some (.int 1)]) (st' := [.int 3, .int (26 + (9 * (nI k))), .ref 65]) (h' := kv_wd (kv_up g (14 + k) 8 (nI x)) w) rfl ?_
                  refine kx_st 1 (pc' := 103) (L' := [some (.ref 65), some (.int (nI k)), some (.int 3), some (.int (nI x)), some (.int 1)]) (st' := [.int (26 + (9 * (nI k))), .ref 65]) (h' := kv_wd (kv_up g (14 + k) 8 (nI x)) w) rfl ?_
                  refine kx_st 2 (pc' := 105) (L' := [some (.ref 65), some (.int (nI k)), some (.int 3), some (.int (nI x)), some (.int 1)]) (st' := [.int 1, .int 3, .int (26 + (9 * (nI k))), .ref 65]) (h' := kv_wd (kv_up g (14 + k) 8 (nI x)) w) rfl ?_
                  refine kx_st 1 (pc' := 112) (L' := [some (.ref 65), some (.int (nI k)), some (.int 3), some (.int (nI x)), some (.int 1)]) (st' := [.int (26 + (9 * (nI k))), .ref 65]) (h' := kv_wd (kv_up g (14 + k) 8 (nI x)) w) rfl ?_
                  refine kx_st 2 (pc' := 114) (L' := [some (.ref 65), some (.int (nI k)), some (.int 3), some (.int (nI x)), some (.int 1)]) (st' := [.int 2, .int 3, .int (26 + (9 * (nI k))), .ref 65]) (h' := kv_wd (kv_up g (14 + k) 8 (nI x)) w) rfl ?_
                  refine kx_st 1 (pc' := 122) (L' := [some (.ref 65), some (.int (nI k)), some (.int 3), some (.int (nI x)), some (.int 1)]) (st' := [.int (26 + (9 * (nI k))), .ref 65]) (h' := kv_wd (kv_up g (14 + k) 8 (nI x)) w) rfl ?_
                  refine kx_st 3 (pc' := 126) (L' := [some (.ref 65), some (.int (nI k)), some (.int 3), some (.int (nI x)), some (.int 1)]) (st' := [.int (nI x), .int ((26 + (9 * (nI k))) + 8), .ref 65]) (h' := kv_wd (kv_up g (14 + k) 8 (nI x)) w) rfl ?_
                  refine kx_call (z := 142) (as := [.ref 65, .int ((26 + (9 * (nI k))) + 8), .int (nI x)]) (rest := []) (v := some (.int ((kv_up g (14 + k) 8 (nI x)) 66 (26 + 9 * k + 8)))) (h1 := kv_wd (kv_up (kv_up g (14 + k) 8 (nI x)) 66 (26 + 9 * k + 8) (nI x)) w) rfl (by rw [show ((26 : Int32) + 9 * nI k) + 8 = nI (26 + 9 * k + 8) from kx_i26 k 8]; exact ev_becomes (d := 898) (26 + 9 * k + 8) (by omega) (nI x)) ?_
                  refine kx_st 0 (pc' := 129) (L' := [some (.ref 65), some (.int (nI k)), some (.int 3), some (.int (nI x)), some (.int 1)]) (st' := [.int ((kv_up g (14 + k) 8 (nI x)) 66 (26 + 9 * k + 8))]) (h' := kv_wd (kv_up (kv_up g (14 + k) 8 (nI x)) 66 (26 + 9 * k + 8) (nI x)) w) rfl ?_
                  refine kx_ret (v := some (.int ((kv_up g (14 + k) 8 (nI x)) 66 (26 + 9 * k + 8)))) rfl ?_
                  exact ⟨by rw [kf 8 (by omega), kv_up_ne (by omega)], _, _, rfl, kx_Rl_knot hR d2 a4 hkm (by omega) (fun z => absurd z (by decide)) (fun z => absurd z (by decide)) (by decide) (fun z => absurd z (by decide)) (fun z => absurd z (by decide)) (fun z => absurd z (by decide)) (fun _ => ⟨x, hx9, rfl⟩)⟩
            · exact absurd hx h31
        · refine kx_two (by decide) (Nat.le_of_ble_eq_true rfl) (by decide) (Nat.le_of_ble_eq_true rfl) ?_
          refine kx_st 0 (pc' := 0) (L' := [some (.ref 0), some (.int (nI k)), some (.int 3), some (.int c), none]) (st' := []) (h' := kv_wd g w) rfl ?_
          refine kx_st 3 (pc' := 5) (L' := [some (.ref 0), some (.int (nI k)), some (.int 3), some (.int c), none]) (st' := [.int (nI k), .ref 1]) (h' := kv_wd g w) rfl ?_
          refine kx_call (z := 17) (as := [.ref 1, .int (nI k)]) (rest := []) (v := some (.ref (14 + k))) (h1 := kv_wd g w) rfl (ev_knotAt (d := 898) (g := g) q k hk8 hkn) ?_
          refine kx_st 0 (pc' := 8) (L' := [some (.ref 0), some (.int (nI k)), some (.int 3), some (.int c), none]) (st' := [.ref (14 + k)]) (h' := kv_wd g w) rfl ?_
          refine kx_st 2 (pc' := 12) (L' := [some (.ref 0), some (.int (nI k)), some (.int 3), some (.int c), some (.ref (14 + k))]) (st' := [.ref (14 + k)]) (h' := kv_wd g w) rfl ?_
          refine kx_st 1 (pc' := 15) (L' := [some (.ref 0), some (.int (nI k)), some (.int 3), some (.int c), some (.ref (14 + k))]) (st' := []) (h' := kv_wd g w) rfl ?_
          refine kx_st 2 (pc' := 17) (L' := [some (.ref 0), some (.int (nI k)), some (.int 3), some (.int c), some (.ref (14 + k))]) (st' := [.int 3, .int 3]) (h' := kv_wd g w) rfl ?_
          refine kx_call (z := 124) (as := [.int 3, .int 3]) (rest := []) (v := some (.int (kx_b (0 ≤ (3 : Int32) ∧ (3 : Int32) ≤ 3)))) (h1 := kv_wd g w) rfl (ev_within (d := 898) 3 3) ?_
          refine kx_st 0 (pc' := 20) (L' := [some (.ref 0), some (.int (nI k)), some (.int 3), some (.int c), some (.ref (14 + k))]) (st' := [.int (kx_b (0 ≤ (3 : Int32) ∧ (3 : Int32) ≤ 3))]) (h' := kv_wd g w) rfl ?_
          refine kx_be (t := 34) rfl rfl (fun (h20 : ¬ (0 ≤ (3 : Int32) ∧ (3 : Int32) ≤ 3)) => ?_) (fun (h20 : (0 ≤ (3 : Int32) ∧ (3 : Int32) ≤ 3)) => ?_)
          · exact absurd hw h20
          · refine kx_st 0 (pc' := 23) (L' := [some (.ref 0), some (.int (nI k)), some (.int 3), some (.int c), some (.ref (14 + k))]) (st' := []) (h' := kv_wd g w) rfl ?_
            refine kx_st 2 (pc' := 25) (L' := [some (.ref 0), some (.int (nI k)), some (.int 3), some (.int c), some (.ref (14 + k))]) (st' := [.int 3, .int c]) (h' := kv_wd g w) rfl ?_
            refine kx_call (z := 125) (as := [.int 3]) (rest := [.int c]) (v := some (.int 99)) (h1 := kv_wd g w) rfl (ev_moc_3 (d := 898)) ?_
            refine kx_st 0 (pc' := 28) (L' := [some (.ref 0), some (.int (nI k)), some (.int 3), some (.int c), some (.ref (14 + k))]) (st' := [.int 99, .int c]) (h' := kv_wd g w) rfl ?_
            refine kx_call (z := 124) (as := [.int c, .int 99]) (rest := []) (v := some (.int (kx_b (0 ≤ c ∧ c ≤ 99)))) (h1 := kv_wd g w) rfl (ev_within (d := 898) c 99) ?_
            refine kx_st 0 (pc' := 31) (L' := [some (.ref 0), some (.int (nI k)), some (.int 3), some (.int c), some (.ref (14 + k))]) (st' := [.int (kx_b (0 ≤ c ∧ c ≤ 99))]) (h' := kv_wd g w) rfl ?_
            refine kx_bn (t := 40) rfl rfl (fun (h31 : (0 ≤ c ∧ c ≤ 99)) => ?_) (fun (h31 : ¬ (0 ≤ c ∧ c ≤ 99)) => ?_)
            · exact absurd h31 hx
            · refine kx_st 0 (pc' := 34) (L' := [some (.ref 0), some (.int (nI k)), some (.int 3), some (.int c), some (.ref (14 + k))]) (st' := []) (h' := kv_wd g w) rfl ?_
              refine kx_st 2 (pc' := 36) (L' := [some (.ref 0), some (.int (nI k)), some (.int 3), some (.int c), some (.ref (14 + k))]) (st' := [.int 1, .ref 0]) (h' := kv_wd g w) rfl ?_
              refine kx_call (z := 123) (as := [.ref 0, .int 1]) (rest := []) (v := some (.int (-1000000000 - nI 1))) (h1 := kv_wd (kv_up g 64 1 (g 64 1 + 1)) w) rfl (ev_error (d := 898) 1 (by decide) (by decide)) ?_
              refine kx_st 0 (pc' := 39) (L' := [some (.ref 0), some (.int (nI k)), some (.int 3), some (.int c), some (.ref (14 + k))]) (st' := [.int (-1000000000 - nI 1)]) (h' := kv_wd (kv_up g 64 1 (g 64 1 + 1)) w) rfl ?_
              refine kx_ret (v := some (.int (-1000000000 - nI 1))) rfl ?_
              refine ⟨_, _, _, rfl, rfl, ?_⟩
              refine kx_st 0 (pc' := 0) (L' := [some (.ref 65), some (.int (nI k)), some (.int 3), some (.int c), none]) (st' := []) (h' := kv_wd (kv_up g 64 1 (g 64 1 + 1)) w) rfl ?_
              refine kx_st 1 (pc' := 1) (L' := [some (.ref 65), some (.int (nI k)), some (.int 3), some (.int c), none]) (st' := [.int 3]) (h' := kv_wd (kv_up g 64 1 (g 64 1 + 1)) w) rfl ?_
              refine kx_st 1 (pc' := 15) (L' := [some (.ref 65), some (.int (nI k)), some (.int 3), some (.int c), none]) (st' := []) (h' := kv_wd (kv_up g 64 1 (g 64 1 + 1)) w) rfl ?_
              refine kx_st 2 (pc' := 17) (L' := [some (.ref 65), some (.int (nI k)), some (.int 3), some (.int c), none]) (st' := [.int 1, .int 3]) (h' := kv_wd (kv_up g 64 1 (g 64 1 + 1)) w) rfl ?_
              refine kx_st 1 (pc' := 31) (L' := [some (.ref 65), some (.int (nI k)), some (.int 3), some (.int c), none]) (st' := []) (h' := kv_wd (kv_up g 64 1 (g 64 1 + 1)) w) rfl ?_
              refine kx_st 2 (pc' := 33) (L' := [some (.ref 65), some (.int (nI k)), some (.int 3), some (.int c), none]) (st' := [.int 2, .int 3]) (h' := kv_wd (kv_up g 64 1 (g 64 1 + 1)) w) rfl ?_
              refine kx_st 1 (pc' := 45) (L' := [some (.ref 65), some (.int (nI k)), some (.int 3), some (.int c), none]) (st' := []) (h' := kv_wd (kv_up g 64 1 (g 64 1 + 1)) w) rfl ?_
              refine kx_st 2 (pc' := 47) (L' := [some (.ref 65), some (.int (nI k)), some (.int 3), some (.int c), none]) (st' := [.int 3, .int 3]) (h' := kv_wd (kv_up g 64 1 (g 64 1 + 1)) w) rfl ?_
              refine kx_st 1 (pc' := 50) (L' := [some (.ref 65), some (.int (nI k)), some (.int 3), some (.int c), none]) (st' := []) (h' := kv_wd (kv_up g 64 1 (g 64 1 + 1)) w) rfl ?_
              refine kx_st 3 (pc' := 54) (L' := [some (.ref 65), some (.int (nI k)), some (.int 3), some (.int c), none]) (st' := [.int 99, .int 0, .int c]) (h' := kv_wd (kv_up g 64 1 (g 64 1 + 1)) w) rfl ?_
              refine kx_call (z := 130) (as := [.int c, .int 0, .int 99]) (rest := []) (v := some (.int (kx_b (0 ≤ c ∧ c ≤ 99)))) (h1 := kv_wd (kv_up g 64 1 (g 64 1 + 1)) w) rfl (ev_in (d := 898) c 0 99) ?_
              refine kx_st 0 (pc' := 57) (L' := [some (.ref 65), some (.int (nI k)), some (.int 3), some (.int c), none]) (st' := [.int (kx_b (0 ≤ c ∧ c ≤ 99))]) (h' := kv_wd (kv_up g 64 1 (g 64 1 + 1)) w) rfl ?_
              refine kx_be (t := 64) rfl rfl (fun (m57 : ¬ (0 ≤ c ∧ c ≤ 99)) => ?_) (fun (m57 : (0 ≤ c ∧ c ≤ 99)) => ?_)
              · refine kx_st 4 (pc' := 69) (L' := [some (.ref 65), some (.int (nI k)), some (.int 3), some (.int c), some (.int 0)]) (st' := [.int (nI k), .ref 65]) (h' := kv_wd (kv_up g 64 1 (g 64 1 + 1)) w) rfl ?_
                refine kx_call (z := 139) (as := [.ref 65, .int (nI k)]) (rest := []) (v := some (.int (kx_b (0 ≤ nI k ∧ nI k < nI m)))) (h1 := kv_wd (kv_up g 64 1 (g 64 1 + 1)) w) rfl (ev_mKnotS (d := 897) (g := kv_up g 64 1 (g 64 1 + 1)) (s := m) (by first | exact d2 | (rw [kv_up_ne (by omega)]; exact d2)) a4 (nI k)) ?_
                refine kx_st 0 (pc' := 72) (L' := [some (.ref 65), some (.int (nI k)), some (.int 3), some (.int c), some (.int 0)]) (st' := [.int (kx_b (0 ≤ nI k ∧ nI k < nI m))]) (h' := kv_wd (kv_up g 64 1 (g 64 1 + 1)) w) rfl ?_
                refine kx_be (t := 80) rfl rfl (fun (m72 : ¬ (0 ≤ nI k ∧ nI k < nI m)) => ?_) (fun (m72 : (0 ≤ nI k ∧ nI k < nI m)) => ?_)
                · exact absurd hv m72
                · refine kx_st 0 (pc' := 75) (L' := [some (.ref 65), some (.int (nI k)), some (.int 3), some (.int c), some (.int 0)]) (st' := []) (h' := kv_wd (kv_up g 64 1 (g 64 1 + 1)) w) rfl ?_
                  refine kx_st 1 (pc' := 77) (L' := [some (.ref 65), some (.int (nI k)), some (.int 3), some (.int c), some (.int 0)]) (st' := [.int 0]) (h' := kv_wd (kv_up g 64 1 (g 64 1 + 1)) w) rfl ?_
                  refine kx_st 1 (pc' := 80) (L' := [some (.ref 65), some (.int (nI k)), some (.int 3), some (.int c), some (.int 0)]) (st' := []) (h' := kv_wd (kv_up g 64 1 (g 64 1 + 1)) w) rfl ?_
                  refine kx_st 2 (pc' := 83) (L' := [some (.ref 65), some (.int (nI k)), some (.int 3), some (.int c), some (.int 0)]) (st' := [.int (-1000000001), .ref 65]) (h' := kv_wd (kv_up g 64 1 (g 64 1 + 1)) w) rfl ?_
                  refine kx_call (z := 131) (as := [.ref 65, .int (-1000000001)]) (rest := []) (v := some (.int (-1000000001))) (h1 := kv_wd (kv_up (kv_up g 64 1 (g 64 1 + 1)) 70 1 ((kv_up g 64 1 (g 64 1 + 1)) 70 1 + 1)) w) rfl (ev_errs (d := 898) (-1000000001) 1 (by decide) (by decide)) ?_
                  refine kx_st 0 (pc' := 86) (L' := [some (.ref 65), some (.int (nI k)), some (.int 3), some (.int c), some (.int 0)]) (st' := [.int (-1000000001)]) (h' := kv_wd (kv_up (kv_up g 64 1 (g 64 1 + 1)) 70 1 ((kv_up g 64 1 (g 64 1 + 1)) 70 1 + 1)) w) rfl ?_
                  refine kx_ret (v := some (.int (-1000000001))) rfl ?_
                  exact ⟨rfl, _, _, rfl, kx_Rl_e hR⟩
              · exact absurd m57 hx
    · refine kx_two (by decide) (Nat.le_of_ble_eq_true rfl) (by decide) (Nat.le_of_ble_eq_true rfl) ?_
      refine kx_st 0 (pc' := 0) (L' := [some (.ref 0), some (.int (nI k)), some (.int b), some (.int c), none]) (st' := []) (h' := kv_wd g w) rfl ?_
      refine kx_st 3 (pc' := 5) (L' := [some (.ref 0), some (.int (nI k)), some (.int b), some (.int c), none]) (st' := [.int (nI k), .ref 1]) (h' := kv_wd g w) rfl ?_
      refine kx_call (z := 17) (as := [.ref 1, .int (nI k)]) (rest := []) (v := some (.ref (14 + k))) (h1 := kv_wd g w) rfl (ev_knotAt (d := 898) (g := g) q k hk8 hkn) ?_
      refine kx_st 0 (pc' := 8) (L' := [some (.ref 0), some (.int (nI k)), some (.int b), some (.int c), none]) (st' := [.ref (14 + k)]) (h' := kv_wd g w) rfl ?_
      refine kx_st 2 (pc' := 12) (L' := [some (.ref 0), some (.int (nI k)), some (.int b), some (.int c), some (.ref (14 + k))]) (st' := [.ref (14 + k)]) (h' := kv_wd g w) rfl ?_
      refine kx_st 1 (pc' := 15) (L' := [some (.ref 0), some (.int (nI k)), some (.int b), some (.int c), some (.ref (14 + k))]) (st' := []) (h' := kv_wd g w) rfl ?_
      refine kx_st 2 (pc' := 17) (L' := [some (.ref 0), some (.int (nI k)), some (.int b), some (.int c), some (.ref (14 + k))]) (st' := [.int 3, .int b]) (h' := kv_wd g w) rfl ?_
      refine kx_call (z := 124) (as := [.int b, .int 3]) (rest := []) (v := some (.int (kx_b (0 ≤ b ∧ b ≤ 3)))) (h1 := kv_wd g w) rfl (ev_within (d := 898) b 3) ?_
      refine kx_st 0 (pc' := 20) (L' := [some (.ref 0), some (.int (nI k)), some (.int b), some (.int c), some (.ref (14 + k))]) (st' := [.int (kx_b (0 ≤ b ∧ b ≤ 3))]) (h' := kv_wd g w) rfl ?_
      refine kx_be (t := 34) rfl rfl (fun (h20 : ¬ (0 ≤ b ∧ b ≤ 3)) => ?_) (fun (h20 : (0 ≤ b ∧ b ≤ 3)) => ?_)
      · refine kx_st 2 (pc' := 36) (L' := [some (.ref 0), some (.int (nI k)), some (.int b), some (.int c), some (.ref (14 + k))]) (st' := [.int 1, .ref 0]) (h' := kv_wd g w) rfl ?_
        refine kx_call (z := 123) (as := [.ref 0, .int 1]) (rest := []) (v := some (.int (-1000000000 - nI 1))) (h1 := kv_wd (kv_up g 64 1 (g 64 1 + 1)) w) rfl (ev_error (d := 898) 1 (by decide) (by decide)) ?_
        refine kx_st 0 (pc' := 39) (L' := [some (.ref 0), some (.int (nI k)), some (.int b), some (.int c), some (.ref (14 + k))]) (st' := [.int (-1000000000 - nI 1)]) (h' := kv_wd (kv_up g 64 1 (g 64 1 + 1)) w) rfl ?_
        refine kx_ret (v := some (.int (-1000000000 - nI 1))) rfl ?_
        refine ⟨_, _, _, rfl, rfl, ?_⟩
        refine kx_st 0 (pc' := 0) (L' := [some (.ref 65), some (.int (nI k)), some (.int b), some (.int c), none]) (st' := []) (h' := kv_wd (kv_up g 64 1 (g 64 1 + 1)) w) rfl ?_
        refine kx_st 1 (pc' := 1) (L' := [some (.ref 65), some (.int (nI k)), some (.int b), some (.int c), none]) (st' := [.int b]) (h' := kv_wd (kv_up g 64 1 (g 64 1 + 1)) w) rfl ?_
        refine kx_bc (t := 15) rfl rfl (fun (m1 : ¬ b = 0) => ?_) (fun (m1 : ¬ (¬ b = 0)) => ?_)
        · refine kx_st 2 (pc' := 17) (L' := [some (.ref 65), some (.int (nI k)), some (.int b), some (.int c), none]) (st' := [.int 1, .int b]) (h' := kv_wd (kv_up g 64 1 (g 64 1 + 1)) w) rfl ?_
          refine kx_bi (t := 31) rfl rfl (fun (m17 : ¬ b = 1) => ?_) (fun (m17 : ¬ (¬ b = 1)) => ?_)
          · refine kx_st 2 (pc' := 33) (L' := [some (.ref 65), some (.int (nI k)), some (.int b), some (.int c), none]) (st' := [.int 2, .int b]) (h' := kv_wd (kv_up g 64 1 (g 64 1 + 1)) w) rfl ?_
            refine kx_bi (t := 45) rfl rfl (fun (m33 : ¬ b = 2) => ?_) (fun (m33 : ¬ (¬ b = 2)) => ?_)
            · refine kx_st 2 (pc' := 47) (L' := [some (.ref 65), some (.int (nI k)), some (.int b), some (.int c), none]) (st' := [.int 3, .int b]) (h' := kv_wd (kv_up g 64 1 (g 64 1 + 1)) w) rfl ?_
              refine kx_bi (t := 64) rfl rfl (fun (m47 : ¬ b = 3) => ?_) (fun (m47 : ¬ (¬ b = 3)) => ?_)
              · refine kx_st 4 (pc' := 69) (L' := [some (.ref 65), some (.int (nI k)), some (.int b), some (.int c), some (.int 0)]) (st' := [.int (nI k), .ref 65]) (h' := kv_wd (kv_up g 64 1 (g 64 1 + 1)) w) rfl ?_
                refine kx_call (z := 139) (as := [.ref 65, .int (nI k)]) (rest := []) (v := some (.int (kx_b (0 ≤ nI k ∧ nI k < nI m)))) (h1 := kv_wd (kv_up g 64 1 (g 64 1 + 1)) w) rfl (ev_mKnotS (d := 897) (g := kv_up g 64 1 (g 64 1 + 1)) (s := m) (by first | exact d2 | (rw [kv_up_ne (by omega)]; exact d2)) a4 (nI k)) ?_
                refine kx_st 0 (pc' := 72) (L' := [some (.ref 65), some (.int (nI k)), some (.int b), some (.int c), some (.int 0)]) (st' := [.int (kx_b (0 ≤ nI k ∧ nI k < nI m))]) (h' := kv_wd (kv_up g 64 1 (g 64 1 + 1)) w) rfl ?_
                refine kx_be (t := 80) rfl rfl (fun (m72 : ¬ (0 ≤ nI k ∧ nI k < nI m)) => ?_) (fun (m72 : (0 ≤ nI k ∧ nI k < nI m)) => ?_)
                · refine kx_st 2 (pc' := 83) (L' := [some (.ref 65), some (.int (nI k)), some (.int b), some (.int c), some (.int 0)]) (st' := [.int (-1000000001), .ref 65]) (h' := kv_wd (kv_up g 64 1 (g 64 1 + 1)) w) rfl ?_
                  refine kx_call (z := 131) (as := [.ref 65, .int (-1000000001)]) (rest := []) (v := some (.int (-1000000001))) (h1 := kv_wd (kv_up (kv_up g 64 1 (g 64 1 + 1)) 70 1 ((kv_up g 64 1 (g 64 1 + 1)) 70 1 + 1)) w) rfl (ev_errs (d := 898) (-1000000001) 1 (by decide) (by decide)) ?_
                  refine kx_st 0 (pc' := 86) (L' := [some (.ref 65), some (.int (nI k)), some (.int b), some (.int c), some (.int 0)]) (st' := [.int (-1000000001)]) (h' := kv_wd (kv_up (kv_up g 64 1 (g 64 1 + 1)) 70 1 ((kv_up g 64 1 (g 64 1 + 1)) 70 1 + 1)) w) rfl ?_
                  refine kx_ret (v := some (.int (-1000000001))) rfl ?_
                  exact ⟨rfl, _, _, rfl, kx_Rl_e hR⟩
                · refine kx_st 0 (pc' := 75) (L' := [some (.ref 65), some (.int (nI k)), some (.int b), some (.int c), some (.int 0)]) (st' := []) (h' := kv_wd (kv_up g 64 1 (g 64 1 + 1)) w) rfl ?_
                  refine kx_st 1 (pc' := 77) (L' := [some (.ref 65), some (.int (nI k)), some (.int b), some (.int c), some (.int 0)]) (st' := [.int 0]) (h' := kv_wd (kv_up g 64 1 (g 64 1 + 1)) w) rfl ?_
                  refine kx_st 1 (pc' := 80) (L' := [some (.ref 65), some (.int (nI k)), some (.int b), some (.int c), some (.int 0)]) (st' := []) (h' := kv_wd (kv_up g 64 1 (g 64 1 + 1)) w) rfl ?_
                  refine kx_st 2 (pc' := 83) (L' := [some (.ref 65), some (.int (nI k)), some (.int b), some (.int c), some (.int 0)]) (st' := [.int (-1000000001), .ref 65]) (h' := kv_wd (kv_up g 64 1 (g 64 1 + 1)) w) rfl ?_
                  refine kx_call (z := 131) (as := [.ref 65, .int (-1000000001)]) (rest := []) (v := some (.int (-1000000001))) (h1 := kv_wd (kv_up (kv_up g 64 1 (g 64 1 + 1)) 70 1 ((kv_up g 64 1 (g 64 1 + 1)) 70 1 + 1)) w) rfl (ev_errs (d := 898) (-1000000001) 1 (by decide) (by decide)) ?_
                  refine kx_st 0 (pc' := 86) (L' := [some (.ref 65), some (.int (nI k)), some (.int b), some (.int c), some (.int 0)]) (st' := [.int (-1000000001)]) (h' := kv_wd (kv_up (kv_up g 64 1 (g 64 1 + 1)) 70 1 ((kv_up g 64 1 (g 64 1 + 1)) 70 1 + 1)) w) rfl ?_
                  refine kx_ret (v := some (.int (-1000000001))) rfl ?_
                  exact ⟨rfl, _, _, rfl, kx_Rl_e hR⟩
              · exact absurd (by rw [Classical.not_not.mp m47]; decide) hw
            · exact absurd (by rw [Classical.not_not.mp m33]; decide) hw
          · exact absurd (by rw [Classical.not_not.mp m17]; decide) hw
        · exact absurd (by rw [Classical.not_not.mp m1]; decide) hw
      · exact absurd h20 hw
  · refine kx_two (by decide) (Nat.le_of_ble_eq_true rfl) (by decide) (Nat.le_of_ble_eq_true rfl) ?_
    refine kx_st 0 (pc' := 0) (L' := [some (.ref 0), some (.int a), some (.int b), some (.int c), none]) (st' := []) (h' := kv_wd g w) rfl ?_
    refine kx_st 3 (pc' := 5) (L' := [some (.ref 0), some (.int a), some (.int b), some (.int c), none]) (st' := [.int a, .ref 1]) (h' := kv_wd g w) rfl ?_
    refine kx_call (z := 17) (as := [.ref 1, .int a]) (rest := []) (v := some (.null)) (h1 := kv_wd g w) rfl (ev_knotAt_n (d := 898) (g := g) a (by rw [d1]; exact hv)) ?_
    refine kx_st 0 (pc' := 8) (L' := [some (.ref 0), some (.int a), some (.int b), some (.int c), none]) (st' := [.null]) (h' := kv_wd g w) rfl ?_
    refine kx_st 2 (pc' := 12) (L' := [some (.ref 0), some (.int a), some (.int b), some (.int c), some (.null)]) (st' := [.null]) (h' := kv_wd g w) rfl ?_
    refine kx_st 1 (pc' := 34) (L' := [some (.ref 0), some (.int a), some (.int b), some (.int c), some (.null)]) (st' := []) (h' := kv_wd g w) rfl ?_
    refine kx_st 2 (pc' := 36) (L' := [some (.ref 0), some (.int a), some (.int b), some (.int c), some (.null)]) (st' := [.int 1, .ref 0]) (h' := kv_wd g w) rfl ?_
    refine kx_call (z := 123) (as := [.ref 0, .int 1]) (rest := []) (v := some (.int (-1000000000 - nI 1))) (h1 := kv_wd (kv_up g 64 1 (g 64 1 + 1)) w) rfl (ev_error (d := 898) 1 (by decide) (by decide)) ?_
    refine kx_st 0 (pc' := 39) (L' := [some (.ref 0), some (.int a), some (.int b), some (.int c), some (.null)]) (st' := [.int (-1000000000 - nI 1)]) (h' := kv_wd (kv_up g 64 1 (g 64 1 + 1)) w) rfl ?_
    refine kx_ret (v := some (.int (-1000000000 - nI 1))) rfl ?_
    refine ⟨_, _, _, rfl, rfl, ?_⟩
    refine kx_st 0 (pc' := 0) (L' := [some (.ref 65), some (.int a), some (.int b), some (.int c), none]) (st' := []) (h' := kv_wd (kv_up g 64 1 (g 64 1 + 1)) w) rfl ?_
    refine kx_st 1 (pc' := 1) (L' := [some (.ref 65), some (.int a), some (.int b), some (.int c), none]) (st' := [.int b]) (h' := kv_wd (kv_up g 64 1 (g 64 1 + 1)) w) rfl ?_
    refine kx_bc (t := 15) rfl rfl (fun (m1 : ¬ b = 0) => ?_) (fun (m1 : ¬ (¬ b = 0)) => ?_)
    · refine kx_st 2 (pc' := 17) (L' := [some (.ref 65), some (.int a), some (.int b), some (.int c), none]) (st' := [.int 1, .int b]) (h' := kv_wd (kv_up g 64 1 (g 64 1 + 1)) w) rfl ?_
      refine kx_bi (t := 31) rfl rfl (fun (m17 : ¬ b = 1) => ?_) (fun (m17 : ¬ (¬ b = 1)) => ?_)
      · refine kx_st 2 (pc' := 33) (L' := [some (.ref 65), some (.int a), some (.int b), some (.int c), none]) (st' := [.int 2, .int b]) (h' := kv_wd (kv_up g 64 1 (g 64 1 + 1)) w) rfl ?_
        refine kx_bi (t := 45) rfl rfl (fun (m33 : ¬ b = 2) => ?_) (fun (m33 : ¬ (¬ b = 2)) => ?_)
        · refine kx_st 2 (pc' := 47) (L' := [some (.ref 65), some (.int a), some (.int b), some (.int c), none]) (st' := [.int 3, .int b]) (h' := kv_wd (kv_up g 64 1 (g 64 1 + 1)) w) rfl ?_
          refine kx_bi (t := 64) rfl rfl (fun (m47 : ¬ b = 3) => ?_) (fun (m47 : ¬ (¬ b = 3)) => ?_)
          · refine kx_st 4 (pc' := 69) (L' := [some (.ref 65), some (.int a), some (.int b), some (.int c), some (.int 0)]) (st' := [.int a, .ref 65]) (h' := kv_wd (kv_up g 64 1 (g 64 1 + 1)) w) rfl ?_
            refine kx_call (z := 139) (as := [.ref 65, .int a]) (rest := []) (v := some (.int (kx_b (0 ≤ a ∧ a < nI m)))) (h1 := kv_wd (kv_up g 64 1 (g 64 1 + 1)) w) rfl (ev_mKnotS (d := 897) (g := kv_up g 64 1 (g 64 1 + 1)) (s := m) (by first | exact d2 | (rw [kv_up_ne (by omega)]; exact d2)) a4 a) ?_
            refine kx_st 0 (pc' := 72) (L' := [some (.ref 65), some (.int a), some (.int b), some (.int c), some (.int 0)]) (st' := [.int (kx_b (0 ≤ a ∧ a < nI m))]) (h' := kv_wd (kv_up g 64 1 (g 64 1 + 1)) w) rfl ?_
            refine kx_be (t := 80) rfl rfl (fun (m72 : ¬ (0 ≤ a ∧ a < nI m)) => ?_) (fun (m72 : (0 ≤ a ∧ a < nI m)) => ?_)
            · refine kx_st 2 (pc' := 83) (L' := [some (.ref 65), some (.int a), some (.int b), some (.int c), some (.int 0)]) (st' := [.int (-1000000001), .ref 65]) (h' := kv_wd (kv_up g 64 1 (g 64 1 + 1)) w) rfl ?_
              refine kx_call (z := 131) (as := [.ref 65, .int (-1000000001)]) (rest := []) (v := some (.int (-1000000001))) (h1 := kv_wd (kv_up (kv_up g 64 1 (g 64 1 + 1)) 70 1 ((kv_up g 64 1 (g 64 1 + 1)) 70 1 + 1)) w) rfl (ev_errs (d := 898) (-1000000001) 1 (by decide) (by decide)) ?_
              refine kx_st 0 (pc' := 86) (L' := [some (.ref 65), some (.int a), some (.int b), some (.int c), some (.int 0)]) (st' := [.int (-1000000001)]) (h' := kv_wd (kv_up (kv_up g 64 1 (g 64 1 + 1)) 70 1 ((kv_up g 64 1 (g 64 1 + 1)) 70 1 + 1)) w) rfl ?_
              refine kx_ret (v := some (.int (-1000000001))) rfl ?_
              exact ⟨rfl, _, _, rfl, kx_Rl_e hR⟩
            · exact absurd m72 hv
          · refine kx_st 0 (pc' := 50) (L' := [some (.ref 65), some (.int a), some (.int b), some (.int c), none]) (st' := []) (h' := kv_wd (kv_up g 64 1 (g 64 1 + 1)) w) rfl ?_
            refine kx_st 3 (pc' := 54) (L' := [some (.ref 65), some (.int a), some (.int b), some (.int c), none]) (st' := [.int 99, .int 0, .int c]) (h' := kv_wd (kv_up g 64 1 (g 64 1 + 1)) w) rfl ?_
            refine kx_call (z := 130) (as := [.int c, .int 0, .int 99]) (rest := []) (v := some (.int (kx_b (0 ≤ c ∧ c ≤ 99)))) (h1 := kv_wd (kv_up g 64 1 (g 64 1 + 1)) w) rfl (ev_in (d := 898) c 0 99) ?_
            refine kx_st 0 (pc' := 57) (L' := [some (.ref 65), some (.int a), some (.int b), some (.int c), none]) (st' := [.int (kx_b (0 ≤ c ∧ c ≤ 99))]) (h' := kv_wd (kv_up g 64 1 (g 64 1 + 1)) w) rfl ?_
            refine kx_be (t := 64) rfl rfl (fun (m57 : ¬ (0 ≤ c ∧ c ≤ 99)) => ?_) (fun (m57 : (0 ≤ c ∧ c ≤ 99)) => ?_)
            · refine kx_st 4 (pc' := 69) (L' := [some (.ref 65), some (.int a), some (.int b), some (.int c), some (.int 0)]) (st' := [.int a, .ref 65]) (h' := kv_wd (kv_up g 64 1 (g 64 1 + 1)) w) rfl ?_
              refine kx_call (z := 139) (as := [.ref 65, .int a]) (rest := []) (v := some (.int (kx_b (0 ≤ a ∧ a < nI m)))) (h1 := kv_wd (kv_up g 64 1 (g 64 1 + 1)) w) rfl (ev_mKnotS (d := 897) (g := kv_up g 64 1 (g 64 1 + 1)) (s := m) (by first | exact d2 | (rw [kv_up_ne (by omega)]; exact d2)) a4 a) ?_
              refine kx_st 0 (pc' := 72) (L' := [some (.ref 65), some (.int a), some (.int b), some (.int c), some (.int 0)]) (st' := [.int (kx_b (0 ≤ a ∧ a < nI m))]) (h' := kv_wd (kv_up g 64 1 (g 64 1 + 1)) w) rfl ?_
              refine kx_be (t := 80) rfl rfl (fun (m72 : ¬ (0 ≤ a ∧ a < nI m)) => ?_) (fun (m72 : (0 ≤ a ∧ a < nI m)) => ?_)
              · refine kx_st 2 (pc' := 83) (L' := [some (.ref 65), some (.int a), some (.int b), some (.int c), some (.int 0)]) (st' := [.int (-1000000001), .ref 65]) (h' := kv_wd (kv_up g 64 1 (g 64 1 + 1)) w) rfl ?_
                refine kx_call (z := 131) (as := [.ref 65, .int (-1000000001)]) (rest := []) (v := some (.int (-1000000001))) (h1 := kv_wd (kv_up (kv_up g 64 1 (g 64 1 + 1)) 70 1 ((kv_up g 64 1 (g 64 1 + 1)) 70 1 + 1)) w) rfl (ev_errs (d := 898) (-1000000001) 1 (by decide) (by decide)) ?_
                refine kx_st 0 (pc' := 86) (L' := [some (.ref 65), some (.int a), some (.int b), some (.int c), some (.int 0)]) (st' := [.int (-1000000001)]) (h' := kv_wd (kv_up (kv_up g 64 1 (g 64 1 + 1)) 70 1 ((kv_up g 64 1 (g 64 1 + 1)) 70 1 + 1)) w) rfl ?_
                refine kx_ret (v := some (.int (-1000000001))) rfl ?_
                exact ⟨rfl, _, _, rfl, kx_Rl_e hR⟩
              · exact absurd m72 hv
            · refine kx_st 0 (pc' := 60) (L' := [some (.ref 65), some (.int a), some (.int b), some (.int c), none]) (st' := []) (h' := kv_wd (kv_up g 64 1 (g 64 1 + 1)) w) rfl ?_
              refine kx_st 5 (pc' := 69) (L' := [some (.ref 65), some (.int a), some (.int b), some (.int c), some (.int 1)]) (st' := [.int a, .ref 65]) (h' := kv_wd (kv_up g 64 1 (g 64 1 + 1)) w) rfl ?_
              refine kx_call (z := 139) (as := [.ref 65, .int a]) (rest := []) (v := some (.int (kx_b (0 ≤ a ∧ a < nI m)))) (h1 := kv_wd (kv_up g 64 1 (g 64 1 + 1)) w) rfl (ev_mKnotS (d := 897) (g := kv_up g 64 1 (g 64 1 + 1)) (s := m) (by first | exact d2 | (rw [kv_up_ne (by omega)]; exact d2)) a4 a) ?_
              refine kx_st 0 (pc' := 72) (L' := [some (.ref 65), some (.int a), some (.int b), some (.int c), some (.int 1)]) (st' := [.int (kx_b (0 ≤ a ∧ a < nI m))]) (h' := kv_wd (kv_up g 64 1 (g 64 1 + 1)) w) rfl ?_
              refine kx_be (t := 80) rfl rfl (fun (m72 : ¬ (0 ≤ a ∧ a < nI m)) => ?_) (fun (m72 : (0 ≤ a ∧ a < nI m)) => ?_)
              · refine kx_st 2 (pc' := 83) (L' := [some (.ref 65), some (.int a), some (.int b), some (.int c), some (.int 1)]) (st' := [.int (-1000000001), .ref 65]) (h' := kv_wd (kv_up g 64 1 (g 64 1 + 1)) w) rfl ?_
                refine kx_call (z := 131) (as := [.ref 65, .int (-1000000001)]) (rest := []) (v := some (.int (-1000000001))) (h1 := kv_wd (kv_up (kv_up g 64 1 (g 64 1 + 1)) 70 1 ((kv_up g 64 1 (g 64 1 + 1)) 70 1 + 1)) w) rfl (ev_errs (d := 898) (-1000000001) 1 (by decide) (by decide)) ?_
                refine kx_st 0 (pc' := 86) (L' := [some (.ref 65), some (.int a), some (.int b), some (.int c), some (.int 1)]) (st' := [.int (-1000000001)]) (h' := kv_wd (kv_up (kv_up g 64 1 (g 64 1 + 1)) 70 1 ((kv_up g 64 1 (g 64 1 + 1)) 70 1 + 1)) w) rfl ?_
                refine kx_ret (v := some (.int (-1000000001))) rfl ?_
                exact ⟨rfl, _, _, rfl, kx_Rl_e hR⟩
              · exact absurd m72 hv
        · refine kx_st 0 (pc' := 36) (L' := [some (.ref 65), some (.int a), some (.int b), some (.int c), none]) (st' := []) (h' := kv_wd (kv_up g 64 1 (g 64 1 + 1)) w) rfl ?_
          refine kx_st 3 (pc' := 39) (L' := [some (.ref 65), some (.int a), some (.int b), some (.int c), none]) (st' := [.int 1, .int 0, .int c]) (h' := kv_wd (kv_up g 64 1 (g 64 1 + 1)) w) rfl ?_
          refine kx_call (z := 130) (as := [.int c, .int 0, .int 1]) (rest := []) (v := some (.int (kx_b (0 ≤ c ∧ c ≤ 1)))) (h1 := kv_wd (kv_up g 64 1 (g 64 1 + 1)) w) rfl (ev_in (d := 898) c 0 1) ?_
          refine kx_st 0 (pc' := 42) (L' := [some (.ref 65), some (.int a), some (.int b), some (.int c), none]) (st' := [.int (kx_b (0 ≤ c ∧ c ≤ 1))]) (h' := kv_wd (kv_up g 64 1 (g 64 1 + 1)) w) rfl ?_
          refine kx_st 4 (pc' := 69) (L' := [some (.ref 65), some (.int a), some (.int b), some (.int c), some (.int (kx_b (0 ≤ c ∧ c ≤ 1)))]) (st' := [.int a, .ref 65]) (h' := kv_wd (kv_up g 64 1 (g 64 1 + 1)) w) rfl ?_
          refine kx_call (z := 139) (as := [.ref 65, .int a]) (rest := []) (v := some (.int (kx_b (0 ≤ a ∧ a < nI m)))) (h1 := kv_wd (kv_up g 64 1 (g 64 1 + 1)) w) rfl (ev_mKnotS (d := 897) (g := kv_up g 64 1 (g 64 1 + 1)) (s := m) (by first | exact d2 | (rw [kv_up_ne (by omega)]; exact d2)) a4 a) ?_
          refine kx_st 0 (pc' := 72) (L' := [some (.ref 65), some (.int a), some (.int b), some (.int c), some (.int (kx_b (0 ≤ c ∧ c ≤ 1)))]) (st' := [.int (kx_b (0 ≤ a ∧ a < nI m))]) (h' := kv_wd (kv_up g 64 1 (g 64 1 + 1)) w) rfl ?_
          refine kx_be (t := 80) rfl rfl (fun (m72 : ¬ (0 ≤ a ∧ a < nI m)) => ?_) (fun (m72 : (0 ≤ a ∧ a < nI m)) => ?_)
          · refine kx_st 2 (pc' := 83) (L' := [some (.ref 65), some (.int a), some (.int b), some (.int c), some (.int (kx_b (0 ≤ c ∧ c ≤ 1)))]) (st' := [.int (-1000000001), .ref 65]) (h' := kv_wd (kv_up g 64 1 (g 64 1 + 1)) w) rfl ?_
            refine kx_call (z := 131) (as := [.ref 65, .int (-1000000001)]) (rest := []) (v := some (.int (-1000000001))) (h1 := kv_wd (kv_up (kv_up g 64 1 (g 64 1 + 1)) 70 1 ((kv_up g 64 1 (g 64 1 + 1)) 70 1 + 1)) w) rfl (ev_errs (d := 898) (-1000000001) 1 (by decide) (by decide)) ?_
            refine kx_st 0 (pc' := 86) (L' := [some (.ref 65), some (.int a), some (.int b), some (.int c), some (.int (kx_b (0 ≤ c ∧ c ≤ 1)))]) (st' := [.int (-1000000001)]) (h' := kv_wd (kv_up (kv_up g 64 1 (g 64 1 + 1)) 70 1 ((kv_up g 64 1 (g 64 1 + 1)) 70 1 + 1)) w) rfl ?_
            refine kx_ret (v := some (.int (-1000000001))) rfl ?_
            exact ⟨rfl, _, _, rfl, kx_Rl_e hR⟩
          · exact absurd m72 hv
      · refine kx_st 0 (pc' := 20) (L' := [some (.ref 65), some (.int a), some (.int b), some (.int c), none]) (st' := []) (h' := kv_wd (kv_up g 64 1 (g 64 1 + 1)) w) rfl ?_
        refine kx_st 3 (pc' := 25) (L' := [some (.ref 65), some (.int a), some (.int b), some (.int c), none]) (st' := [.int 999, .int 0, .int c]) (h' := kv_wd (kv_up g 64 1 (g 64 1 + 1)) w) rfl ?_
        refine kx_call (z := 130) (as := [.int c, .int 0, .int 999]) (rest := []) (v := some (.int (kx_b (0 ≤ c ∧ c ≤ 999)))) (h1 := kv_wd (kv_up g 64 1 (g 64 1 + 1)) w) rfl (ev_in (d := 898) c 0 999) ?_
        refine kx_st 0 (pc' := 28) (L' := [some (.ref 65), some (.int a), some (.int b), some (.int c), none]) (st' := [.int (kx_b (0 ≤ c ∧ c ≤ 999))]) (h' := kv_wd (kv_up g 64 1 (g 64 1 + 1)) w) rfl ?_
        refine kx_st 4 (pc' := 69) (L' := [some (.ref 65), some (.int a), some (.int b), some (.int c), some (.int (kx_b (0 ≤ c ∧ c ≤ 999)))]) (st' := [.int a, .ref 65]) (h' := kv_wd (kv_up g 64 1 (g 64 1 + 1)) w) rfl ?_
        refine kx_call (z := 139) (as := [.ref 65, .int a]) (rest := []) (v := some (.int (kx_b (0 ≤ a ∧ a < nI m)))) (h1 := kv_wd (kv_up g 64 1 (g 64 1 + 1)) w) rfl (ev_mKnotS (d := 897) (g := kv_up g 64 1 (g 64 1 + 1)) (s := m) (by first | exact d2 | (rw [kv_up_ne (by omega)]; exact d2)) a4 a) ?_
        refine kx_st 0 (pc' := 72) (L' := [some (.ref 65), some (.int a), some (.int b), some (.int c), some (.int (kx_b (0 ≤ c ∧ c ≤ 999)))]) (st' := [.int (kx_b (0 ≤ a ∧ a < nI m))]) (h' := kv_wd (kv_up g 64 1 (g 64 1 + 1)) w) rfl ?_
        refine kx_be (t := 80) rfl rfl (fun (m72 : ¬ (0 ≤ a ∧ a < nI m)) => ?_) (fun (m72 : (0 ≤ a ∧ a < nI m)) => ?_)
        · refine kx_st 2 (pc' := 83) (L' := [some (.ref 65), some (.int a), some (.int b), some (.int c), some (.int (kx_b (0 ≤ c ∧ c ≤ 999)))]) (st' := [.int (-1000000001), .ref 65]) (h' := kv_wd (kv_up g 64 1 (g 64 1 + 1)) w) rfl ?_
          refine kx_call (z := 131) (as := [.ref 65, .int (-1000000001)]) (rest := []) (v := some (.int (-1000000001))) (h1 := kv_wd (kv_up (kv_up g 64 1 (g 64 1 + 1)) 70 1 ((kv_up g 64 1 (g 64 1 + 1)) 70 1 + 1)) w) rfl (ev_errs (d := 898) (-1000000001) 1 (by decide) (by decide)) ?_
          refine kx_st 0 (pc' := 86) (L' := [some (.ref 65), some (.int a), some (.int b), some (.int c), some (.int (kx_b (0 ≤ c ∧ c ≤ 999)))]) (st' := [.int (-1000000001)]) (h' := kv_wd (kv_up (kv_up g 64 1 (g 64 1 + 1)) 70 1 ((kv_up g 64 1 (g 64 1 + 1)) 70 1 + 1)) w) rfl ?_
          refine kx_ret (v := some (.int (-1000000001))) rfl ?_
          exact ⟨rfl, _, _, rfl, kx_Rl_e hR⟩
        · exact absurd m72 hv
    · refine kx_st 0 (pc' := 4) (L' := [some (.ref 65), some (.int a), some (.int b), some (.int c), none]) (st' := []) (h' := kv_wd (kv_up g 64 1 (g 64 1 + 1)) w) rfl ?_
      refine kx_st 3 (pc' := 9) (L' := [some (.ref 65), some (.int a), some (.int b), some (.int c), none]) (st' := [.int 198, .int 0, .int c]) (h' := kv_wd (kv_up g 64 1 (g 64 1 + 1)) w) rfl ?_
      refine kx_call (z := 130) (as := [.int c, .int 0, .int 198]) (rest := []) (v := some (.int (kx_b (0 ≤ c ∧ c ≤ 198)))) (h1 := kv_wd (kv_up g 64 1 (g 64 1 + 1)) w) rfl (ev_in (d := 898) c 0 198) ?_
      refine kx_st 0 (pc' := 12) (L' := [some (.ref 65), some (.int a), some (.int b), some (.int c), none]) (st' := [.int (kx_b (0 ≤ c ∧ c ≤ 198))]) (h' := kv_wd (kv_up g 64 1 (g 64 1 + 1)) w) rfl ?_
      refine kx_st 4 (pc' := 69) (L' := [some (.ref 65), some (.int a), some (.int b), some (.int c), some (.int (kx_b (0 ≤ c ∧ c ≤ 198)))]) (st' := [.int a, .ref 65]) (h' := kv_wd (kv_up g 64 1 (g 64 1 + 1)) w) rfl ?_
      refine kx_call (z := 139) (as := [.ref 65, .int a]) (rest := []) (v := some (.int (kx_b (0 ≤ a ∧ a < nI m)))) (h1 := kv_wd (kv_up g 64 1 (g 64 1 + 1)) w) rfl (ev_mKnotS (d := 897) (g := kv_up g 64 1 (g 64 1 + 1)) (s := m) (by first | exact d2 | (rw [kv_up_ne (by omega)]; exact d2)) a4 a) ?_
      refine kx_st 0 (pc' := 72) (L' := [some (.ref 65), some (.int a), some (.int b), some (.int c), some (.int (kx_b (0 ≤ c ∧ c ≤ 198)))]) (st' := [.int (kx_b (0 ≤ a ∧ a < nI m))]) (h' := kv_wd (kv_up g 64 1 (g 64 1 + 1)) w) rfl ?_
      refine kx_be (t := 80) rfl rfl (fun (m72 : ¬ (0 ≤ a ∧ a < nI m)) => ?_) (fun (m72 : (0 ≤ a ∧ a < nI m)) => ?_)
      · refine kx_st 2 (pc' := 83) (L' := [some (.ref 65), some (.int a), some (.int b), some (.int c), some (.int (kx_b (0 ≤ c ∧ c ≤ 198)))]) (st' := [.int (-1000000001), .ref 65]) (h' := kv_wd (kv_up g 64 1 (g 64 1 + 1)) w) rfl ?_
        refine kx_call (z := 131) (as := [.ref 65, .int (-1000000001)]) (rest := []) (v := some (.int (-1000000001))) (h1 := kv_wd (kv_up (kv_up g 64 1 (g 64 1 + 1)) 70 1 ((kv_up g 64 1 (g 64 1 + 1)) 70 1 + 1)) w) rfl (ev_errs (d := 898) (-1000000001) 1 (by decide) (by decide)) ?_
        refine kx_st 0 (pc' := 86) (L' := [some (.ref 65), some (.int a), some (.int b), some (.int c), some (.int (kx_b (0 ≤ c ∧ c ≤ 198)))]) (st' := [.int (-1000000001)]) (h' := kv_wd (kv_up (kv_up g 64 1 (g 64 1 + 1)) 70 1 ((kv_up g 64 1 (g 64 1 + 1)) 70 1 + 1)) w) rfl ?_
        refine kx_ret (v := some (.int (-1000000001))) rfl ?_
        exact ⟨rfl, _, _, rfl, kx_Rl_e hR⟩
      · exact absurd m72 hv
end KP13
