/-! PAIRS: people, judge, fits -/
theorem kx_mn {m n : Nat} (hm : m < 2 ^ 31) (hn : n < 2 ^ 31) : (if nI m < nI n then nI m else nI n) = nI (min n m) := by
  by_cases h : m < n
  · rw [if_pos (nI_lt h hn), Nat.min_eq_right (by omega)]
  · rw [if_neg (nI_nlt (by omega) hm), Nat.min_eq_left (by omega)]
theorem kx_sp : ∀ n, n ≤ 6 → ((1 : Int32) <<< (nI n &&& 31)) - 1 = nI (2 ^ n - 1) := by decide +kernel
theorem kx_i3 {k : Nat} (h : k < 4) : 0 ≤ nI k ∧ nI k ≤ 3 := ⟨nI_le (a := 0) (b := k) (by omega) (by omega), nI_le (a := k) (b := 3) (by omega) (by omega)⟩
theorem kx_ne_nI {a b : Nat} (ha : a < 2 ^ 31) (hb : b < 2 ^ 31) (h : a ≠ b) : ¬ nI a = nI b := fun q => h (kx_nI_inj ha hb q)
section KP10
variable {E : kv_V} {lr : kx_LR}
set_option maxRecDepth 100000 in
theorem pr_people (a : Int32) : kx_ok2 E (kx_Rl lr) 81 143 [.int a] := by
  intro g w i hR hi
  have hR0 := hR
  obtain ⟨q, cu, ⟨H1, H2, H3, H4, H5, hz, l0, l1⟩, im, sh, tr, er⟩ := id hR
  obtain ⟨s, t, m, ⟨a1, a2, a3, a4⟩, ⟨b1, b2⟩, ⟨c1, c2⟩, ⟨d1, d2⟩, hk⟩ := id H1
  by_cases hv : 2 ≤ a ∧ a ≤ 6
  · obtain ⟨n, hn, rfl⟩ := kx_nIof (n := 6) (v := a) (by have := hv.1; simp only [Int32.le_iff_toInt_le] at *; have h3 : (0 : Int32).toInt = 0 := rfl; have h4 : (2 : Int32).toInt = 2 := rfl; omega) hv.2 (by omega)
    have hn2 : 2 ≤ n := by
      have := Int32.le_iff_toInt_le.mp hv.1
      rw [nI_toInt (by omega), show (2 : Int32).toInt = 2 from rfl] at this
      omega
    by_cases hm0 : m = 0
    · refine kx_two (by decide) (Nat.le_of_ble_eq_true rfl) (by decide) (Nat.le_of_ble_eq_true rfl) ?_
      refine kx_st 0 (pc' := 0) (L' := [some (.ref 0), some (.int (nI n)), none]) (st' := []) (h' := kv_wd g w) rfl ?_
      refine kx_st 2 (pc' := 2) (L' := [some (.ref 0), some (.int (nI n)), none]) (st' := [.int 2, .int (nI n)]) (h' := kv_wd g w) rfl ?_
      refine kx_bi (t := 11) rfl rfl (fun (h2 : nI n < 2) => ?_) (fun (h2 : ¬ (nI n < 2)) => ?_)
      · exact absurd hv.1 (Int32.not_le.mpr h2)
      · refine kx_st 0 (pc' := 5) (L' := [some (.ref 0), some (.int (nI n)), none]) (st' := []) (h' := kv_wd g w) rfl ?_
        refine kx_st 2 (pc' := 8) (L' := [some (.ref 0), some (.int (nI n)), none]) (st' := [.int 6, .int (nI n)]) (h' := kv_wd g w) rfl ?_
        refine kx_bi (t := 17) rfl rfl (fun (h8 : nI n ≤ 6) => ?_) (fun (h8 : ¬ (nI n ≤ 6)) => ?_)
        · refine kx_st 3 (pc' := 24) (L' := [some (.ref 0), some (.int (nI n)), none]) (st' := [.int (g 1 4)]) (h' := kv_wd g w) rfl ?_
          refine kx_bc (t := 33) rfl rfl (fun (h24 : g 1 4 ≤ 0) => ?_) (fun (h24 : ¬ (g 1 4 ≤ 0)) => ?_)
          · refine kx_st 7 (pc' := 46) (L' := [some (.ref 0), some (.int (nI n)), some (.int (g 1 0))]) (st' := [.int (nI n), .ref 1]) (h' := kv_wd g w) rfl ?_
            refine kx_call (z := 9) (as := [.ref 1, .int (nI n)]) (rest := []) (v := none) (h1 := kv_wd (kv_uf (kv_uf (kv_up (kv_up g 1 0 (nI n)) 1 1 ((1 <<< ((nI n) &&& 31)) - 1)) 3 (kx_mv (fun _ => 10) (g 3) 6)) 4 (kx_mv (fun _ => 20) (g 4) 6)) w) rfl (ev_settle (d := 897) (nI n)) ?_
            refine kx_st 0 (pc' := 49) (L' := [some (.ref 0), some (.int (nI n)), some (.int (g 1 0))]) (st' := []) (h' := kv_wd (kv_uf (kv_uf (kv_up (kv_up g 1 0 (nI n)) 1 1 ((1 <<< ((nI n) &&& 31)) - 1)) 3 (kx_mv (fun _ => 10) (g 3) 6)) 4 (kx_mv (fun _ => 20) (g 4) 6)) w) rfl ?_
            refine kx_st 1 (pc' := 50) (L' := [some (.ref 0), some (.int (nI n)), some (.int (g 1 0))]) (st' := [.int (g 1 0)]) (h' := kv_wd (kv_uf (kv_uf (kv_up (kv_up g 1 0 (nI n)) 1 1 ((1 <<< ((nI n) &&& 31)) - 1)) 3 (kx_mv (fun _ => 10) (g 3) 6)) 4 (kx_mv (fun _ => 20) (g 4) 6)) w) rfl ?_
            refine kx_ret (v := some (.int (g 1 0))) rfl ?_
            refine ⟨_, _, _, rfl, rfl, ?_⟩
            refine kx_st 0 (pc' := 0) (L' := [some (.ref 65), some (.int (nI n))]) (st' := []) (h' := kv_wd (kv_uf (kv_uf (kv_up (kv_up g 1 0 (nI n)) 1 1 ((1 <<< ((nI n) &&& 31)) - 1)) 3 (kx_mv (fun _ => 10) (g 3) 6)) 4 (kx_mv (fun _ => 20) (g 4) 6)) w) rfl ?_
            refine kx_st 3 (pc' := 4) (L' := [some (.ref 65), some (.int (nI n))]) (st' := [.int 6, .int 2, .int (nI n)]) (h' := kv_wd (kv_uf (kv_uf (kv_up (kv_up g 1 0 (nI n)) 1 1 ((1 <<< ((nI n) &&& 31)) - 1)) 3 (kx_mv (fun _ => 10) (g 3) 6)) 4 (kx_mv (fun _ => 20) (g 4) 6)) w) rfl ?_
            refine kx_call (z := 130) (as := [.int (nI n), .int 2, .int 6]) (rest := []) (v := some (.int (kx_b (2 ≤ nI n ∧ nI n ≤ 6)))) (h1 := kv_wd (kv_uf (kv_uf (kv_up (kv_up g 1 0 (nI n)) 1 1 ((1 <<< ((nI n) &&& 31)) - 1)) 3 (kx_mv (fun _ => 10) (g 3) 6)) 4 (kx_mv (fun _ => 20) (g 4) 6)) w) rfl (ev_in (d := 898) (nI n) 2 6) ?_
            refine kx_st 0 (pc' := 7) (L' := [some (.ref 65), some (.int (nI n))]) (st' := [.int (kx_b (2 ≤ nI n ∧ nI n ≤ 6))]) (h' := kv_wd (kv_uf (kv_uf (kv_up (kv_up g 1 0 (nI n)) 1 1 ((1 <<< ((nI n) &&& 31)) - 1)) 3 (kx_mv (fun _ => 10) (g 3) 6)) 4 (kx_mv (fun _ => 20) (g 4) 6)) w) rfl ?_
            refine kx_bn (t := 17) rfl rfl (fun (m7 : (2 ≤ nI n ∧ nI n ≤ 6)) => ?_) (fun (m7 : ¬ (2 ≤ nI n ∧ nI n ≤ 6)) => ?_)
            · refine kx_st 3 (pc' := 22) (L' := [some (.ref 65), some (.int (nI n))]) (st' := [.int 2, .ref 66]) (h' := kv_wd (kv_uf (kv_uf (kv_up (kv_up g 1 0 (nI n)) 1 1 ((1 <<< ((nI n) &&& 31)) - 1)) 3 (kx_mv (fun _ => 10) (g 3) 6)) 4 (kx_mv (fun _ => 20) (g 4) 6)) w) rfl ?_
              refine kx_ia (k := 2) rfl rfl (by decide) rfl (by decide) (by decide) ?_
              refine kx_bc (t := 33) rfl rfl (fun (m23 : (kv_uf (kv_uf (kv_up (kv_up g 1 0 (nI n)) 1 1 ((1 <<< ((nI n) &&& 31)) - 1)) 3 (kx_mv (fun _ => 10) (g 3) 6)) 4 (kx_mv (fun _ => 20) (g 4) 6)) 66 2 ≤ 0) => ?_) (fun (m23 : ¬ ((kv_uf (kv_uf (kv_up (kv_up g 1 0 (nI n)) 1 1 ((1 <<< ((nI n) &&& 31)) - 1)) 3 (kx_mv (fun _ => 10) (g 3) 6)) 4 (kx_mv (fun _ => 20) (g 4) 6)) 66 2 ≤ 0)) => ?_)
              · refine kx_st 1 (pc' := 34) (L' := [some (.ref 65), some (.int (nI n))]) (st' := [.ref 65]) (h' := kv_wd (kv_uf (kv_uf (kv_up (kv_up g 1 0 (nI n)) 1 1 ((1 <<< ((nI n) &&& 31)) - 1)) 3 (kx_mv (fun _ => 10) (g 3) 6)) 4 (kx_mv (fun _ => 20) (g 4) 6)) w) rfl ?_
                refine kx_call (z := 135) (as := [.ref 65]) (rest := []) (v := none) (h1 := kv_wd (kv_uf (kv_uf (kv_uf (kv_up (kv_up g 1 0 (nI n)) 1 1 ((1 <<< ((nI n) &&& 31)) - 1)) 3 (kx_mv (fun _ => 10) (g 3) 6)) 4 (kx_mv (fun _ => 20) (g 4) 6)) 66 (kx_bg ((kv_uf (kv_uf (kv_up (kv_up g 1 0 (nI n)) 1 1 ((1 <<< ((nI n) &&& 31)) - 1)) 3 (kx_mv (fun _ => 10) (g 3) 6)) 4 (kx_mv (fun _ => 20) (g 4) 6)) 66) 6)) w) rfl (ev_begins (d := 898)) ?_
                refine kx_st 0 (pc' := 37) (L' := [some (.ref 65), some (.int (nI n))]) (st' := []) (h' := kv_wd (kv_uf (kv_uf (kv_uf (kv_up (kv_up g 1 0 (nI n)) 1 1 ((1 <<< ((nI n) &&& 31)) - 1)) 3 (kx_mv (fun _ => 10) (g 3) 6)) 4 (kx_mv (fun _ => 20) (g 4) 6)) 66 (kx_bg ((kv_uf (kv_uf (kv_up (kv_up g 1 0 (nI n)) 1 1 ((1 <<< ((nI n) &&& 31)) - 1)) 3 (kx_mv (fun _ => 10) (g 3) 6)) 4 (kx_mv (fun _ => 20) (g 4) 6)) 66) 6)) w) rfl ?_
                refine kx_st 3 (pc' := 40) (L' := [some (.ref 65), some (.int (nI n))]) (st' := [.int (nI n), .int 3, .ref 65]) (h' := kv_wd (kv_uf (kv_uf (kv_uf (kv_up (kv_up g 1 0 (nI n)) 1 1 ((1 <<< ((nI n) &&& 31)) - 1)) 3 (kx_mv (fun _ => 10) (g 3) 6)) 4 (kx_mv (fun _ => 20) (g 4) 6)) 66 (kx_bg ((kv_uf (kv_uf (kv_up (kv_up g 1 0 (nI n)) 1 1 ((1 <<< ((nI n) &&& 31)) - 1)) 3 (kx_mv (fun _ => 10) (g 3) 6)) 4 (kx_mv (fun _ => 20) (g 4) 6)) 66) 6)) w) rfl ?_
                refine kx_call (z := 142) (as := [.ref 65, .int 3, .int (nI n)]) (rest := []) (v := some (.int ((kv_uf (kv_uf (kv_uf (kv_up (kv_up g 1 0 (nI n)) 1 1 ((1 <<< ((nI n) &&& 31)) - 1)) 3 (kx_mv (fun _ => 10) (g 3) 6)) 4 (kx_mv (fun _ => 20) (g 4) 6)) 66 (kx_bg ((kv_uf (kv_uf (kv_up (kv_up g 1 0 (nI n)) 1 1 ((1 <<< ((nI n) &&& 31)) - 1)) 3 (kx_mv (fun _ => 10) (g 3) 6)) 4 (kx_mv (fun _ => 20) (g 4) 6)) 66) 6)) 66 3))) (h1 := kv_wd (kv_up (kv_uf (kv_uf (kv_uf (kv_up (kv_up g 1 0 (nI n)) 1 1 ((1 <<< ((nI n) &&& 31)) - 1)) 3 (kx_mv (fun _ => 10) (g 3) 6)) 4 (kx_mv (fun _ => 20) (g 4) 6)) 66 (kx_bg ((kv_uf (kv_uf (kv_up (kv_up g 1 0 (nI n)) 1 1 ((1 <<< ((nI n) &&& 31)) - 1)) 3 (kx_mv (fun _ => 10) (g 3) 6)) 4 (kx_mv (fun _ => 20) (g 4) 6)) 66) 6)) 66 3 (nI n)) w) rfl (ev_becomes (d := 898) 3 (by omega) (nI n)) ?_
                refine kx_st 0 (pc' := 43) (L' := [some (.ref 65), some (.int (nI n))]) (st' := [.int ((kv_uf (kv_uf (kv_uf (kv_up (kv_up g 1 0 (nI n)) 1 1 ((1 <<< ((nI n) &&& 31)) - 1)) 3 (kx_mv (fun _ => 10) (g 3) 6)) 4 (kx_mv (fun _ => 20) (g 4) 6)) 66 (kx_bg ((kv_uf (kv_uf (kv_up (kv_up g 1 0 (nI n)) 1 1 ((1 <<< ((nI n) &&& 31)) - 1)) 3 (kx_mv (fun _ => 10) (g 3) 6)) 4 (kx_mv (fun _ => 20) (g 4) 6)) 66) 6)) 66 3)]) (h' := kv_wd (kv_up (kv_uf (kv_uf (kv_uf (kv_up (kv_up g 1 0 (nI n)) 1 1 ((1 <<< ((nI n) &&& 31)) - 1)) 3 (kx_mv (fun _ => 10) (g 3) 6)) 4 (kx_mv (fun _ => 20) (g 4) 6)) 66 (kx_bg ((kv_uf (kv_uf (kv_up (kv_up g 1 0 (nI n)) 1 1 ((1 <<< ((nI n) &&& 31)) - 1)) 3 (kx_mv (fun _ => 10) (g 3) 6)) 4 (kx_mv (fun _ => 20) (g 4) 6)) 66) 6)) 66 3 (nI n)) w) rfl ?_
                refine kx_ret (v := some (.int ((kv_uf (kv_uf (kv_uf (kv_up (kv_up g 1 0 (nI n)) 1 1 ((1 <<< ((nI n) &&& 31)) - 1)) 3 (kx_mv (fun _ => 10) (g 3) 6)) 4 (kx_mv (fun _ => 20) (g 4) 6)) 66 (kx_bg ((kv_uf (kv_uf (kv_up (kv_up g 1 0 (nI n)) 1 1 ((1 <<< ((nI n) &&& 31)) - 1)) 3 (kx_mv (fun _ => 10) (g 3) 6)) 4 (kx_mv (fun _ => 20) (g 4) 6)) 66) 6)) 66 3))) rfl ?_
                have e3 : ∀ j, upd (kx_bg (g 66) 6) 3 (nI n) j = if j = 3 then nI n else if 8 ≤ j ∧ j < 14 then 10 else if 14 ≤ j ∧ j < 20 then 20 else if 20 ≤ j ∧ j < 26 then 1 else g 66 j := fun j => rfl
                have en : ∀ j, (j ≠ 3 ∧ j < 8) ∨ 26 ≤ j → upd (kx_bg (g 66) 6) 3 (nI n) j = g 66 j := fun j hj => by rw [e3, if_neg (by omega), if_neg (by omega), if_neg (by omega), if_neg (by omega)]
                refine ⟨congrArg (fun z => some (Value.int z)) (b2.trans b1.symm), _, _, rfl, kx_Rl_hn hR q (fun b hb hb2 => by rw [kv_up_ne (by omega), kv_uf_ne (by omega), kv_uf_ne (by omega), kv_uf_ne (by omega), kv_up_ne (by omega), kv_up_ne (by omega)]) (fun z hz => rfl) ⟨rfl, rfl⟩ (kx_hn_mk ⟨H1, H2, H3, H4, H5, hz, l0, l1⟩ ⟨n, 2 ^ n - 1, 0, ⟨hn2, hn, by have := Nat.two_pow_pos n; omega, by omega⟩, ⟨rfl, rfl⟩, ⟨kx_sp n hn, fun p hp => ?_⟩, ⟨show g 1 4 = nI 0 by rw [d1, hm0], show g 66 2 = nI 0 by rw [d2, hm0]⟩, fun k hk0 => absurd hk0 (by omega)⟩ (fun p hp => ?_) (kx_H3_cg rfl (en 0 (by omega)) H3) (kx_H4_cg rfl (fun _ _ => rfl) (fun j hj => en j (by omega)) H4) (kx_H5_cg rfl (fun _ _ => rfl) (fun j hj => en j (by omega)) H5) (hz.trans (en 1 (by omega)).symm) ⟨rfl, rfl, rfl, rfl⟩ (fun j hj => en j (by omega)))⟩
                · rw [if_pos (by rw [Nat.testBit_two_pow_sub_one]; exact decide_eq_true hp)]
                  exact (e3 (20 + p)).trans (by rw [if_neg (by omega), if_neg (by omega), if_neg (by omega), if_pos (by omega)])
                · have f1 : upd (kx_bg (g 66) 6) 3 (nI n) (8 + p) = 10 := by rw [e3, if_neg (by omega), if_pos (by omega)]
                  have f2 : upd (kx_bg (g 66) 6) 3 (nI n) (14 + p) = 20 := by rw [e3, if_neg (by omega), if_neg (by omega), if_pos (by omega)]
                  have f3 : upd (kx_bg (g 66) 6) 3 (nI n) (20 + p) = 1 := by rw [e3, if_neg (by omega), if_neg (by omega), if_neg (by omega), if_pos (by omega)]
                  exact ⟨⟨(if_pos hp).trans f1.symm, (if_pos hp).trans f2.symm⟩, Or.inr f3, ⟨10, by omega, f1⟩, ⟨20, by omega, f2⟩⟩
              · exact absurd (by show g 66 2 ≤ 0; rw [d2, hm0]; decide) m23
            · exact absurd hv m7
          · exact absurd (by rw [d1, hm0]; decide) h24
        · exact absurd hv.2 h8
    · refine kx_two (by decide) (Nat.le_of_ble_eq_true rfl) (by decide) (Nat.le_of_ble_eq_true rfl) ?_
      refine kx_st 0 (pc' := 0) (L' := [some (.ref 0), some (.int (nI n)), none]) (st' := []) (h' := kv_wd g w) rfl ?_
      refine kx_st 2 (pc' := 2) (L' := [some (.ref 0), some (.int (nI n)), none]) (st' := [.int 2, .int (nI n)]) (h' := kv_wd g w) rfl ?_
      refine kx_bi (t := 11) rfl rfl (fun (h2 : nI n < 2) => ?_) (fun (h2 : ¬ (nI n < 2)) => ?_)
      · exact absurd hv.1 (Int32.not_le.mpr h2)
      · refine kx_st 0 (pc' := 5) (L' := [some (.ref 0), some (.int (nI n)), none]) (st' := []) (h' := kv_wd g w) rfl ?_
        refine kx_st 2 (pc' := 8) (L' := [some (.ref 0), some (.int (nI n)), none]) (st' := [.int 6, .int (nI n)]) (h' := kv_wd g w) rfl ?_
        refine kx_bi (t := 17) rfl rfl (fun (h8 : nI n ≤ 6) => ?_) (fun (h8 : ¬ (nI n ≤ 6)) => ?_)
        · refine kx_st 3 (pc' := 24) (L' := [some (.ref 0), some (.int (nI n)), none]) (st' := [.int (g 1 4)]) (h' := kv_wd g w) rfl ?_
          refine kx_bc (t := 33) rfl rfl (fun (h24 : g 1 4 ≤ 0) => ?_) (fun (h24 : ¬ (g 1 4 ≤ 0)) => ?_)
          · exact absurd h24 (by rw [d1]; exact Int32.not_le.mpr (nI_lt (a := 0) (b := m) (by omega) (by omega)))
          · refine kx_st 0 (pc' := 27) (L' := [some (.ref 0), some (.int (nI n)), none]) (st' := []) (h' := kv_wd g w) rfl ?_
            refine kx_st 2 (pc' := 29) (L' := [some (.ref 0), some (.int (nI n)), none]) (st' := [.int 3, .ref 0]) (h' := kv_wd g w) rfl ?_
            refine kx_call (z := 123) (as := [.ref 0, .int 3]) (rest := []) (v := some (.int (-1000000000 - nI 3))) (h1 := kv_wd (kv_up g 64 3 (g 64 3 + 1)) w) rfl (ev_error (d := 898) 3 (by decide) (by decide)) ?_
            refine kx_st 0 (pc' := 32) (L' := [some (.ref 0), some (.int (nI n)), none]) (st' := [.int (-1000000000 - nI 3)]) (h' := kv_wd (kv_up g 64 3 (g 64 3 + 1)) w) rfl ?_
            refine kx_ret (v := some (.int (-1000000000 - nI 3))) rfl ?_
            refine ⟨_, _, _, rfl, rfl, ?_⟩
            refine kx_st 0 (pc' := 0) (L' := [some (.ref 65), some (.int (nI n))]) (st' := []) (h' := kv_wd (kv_up g 64 3 (g 64 3 + 1)) w) rfl ?_
            refine kx_st 3 (pc' := 4) (L' := [some (.ref 65), some (.int (nI n))]) (st' := [.int 6, .int 2, .int (nI n)]) (h' := kv_wd (kv_up g 64 3 (g 64 3 + 1)) w) rfl ?_
            refine kx_call (z := 130) (as := [.int (nI n), .int 2, .int 6]) (rest := []) (v := some (.int (kx_b (2 ≤ nI n ∧ nI n ≤ 6)))) (h1 := kv_wd (kv_up g 64 3 (g 64 3 + 1)) w) rfl (ev_in (d := 898) (nI n) 2 6) ?_
            refine kx_st 0 (pc' := 7) (L' := [some (.ref 65), some (.int (nI n))]) (st' := [.int (kx_b (2 ≤ nI n ∧ nI n ≤ 6))]) (h' := kv_wd (kv_up g 64 3 (g 64 3 + 1)) w) rfl ?_
            refine kx_bn (t := 17) rfl rfl (fun (m7 : (2 ≤ nI n ∧ nI n ≤ 6)) => ?_) (fun (m7 : ¬ (2 ≤ nI n ∧ nI n ≤ 6)) => ?_)
            · refine kx_st 3 (pc' := 22) (L' := [some (.ref 65), some (.int (nI n))]) (st' := [.int 2, .ref 66]) (h' := kv_wd (kv_up g 64 3 (g 64 3 + 1)) w) rfl ?_
              refine kx_ia (k := 2) rfl rfl (by decide) rfl (by decide) (by decide) ?_
              refine kx_bc (t := 33) rfl rfl (fun (m23 : (kv_up g 64 3 (g 64 3 + 1)) 66 2 ≤ 0) => ?_) (fun (m23 : ¬ ((kv_up g 64 3 (g 64 3 + 1)) 66 2 ≤ 0)) => ?_)
              · exact absurd (show g 66 2 ≤ 0 from m23) (by rw [d2]; exact Int32.not_le.mpr (nI_lt (a := 0) (b := m) (by omega) (by omega)))
              · refine kx_st 0 (pc' := 26) (L' := [some (.ref 65), some (.int (nI n))]) (st' := []) (h' := kv_wd (kv_up g 64 3 (g 64 3 + 1)) w) rfl ?_
                refine kx_st 2 (pc' := 29) (L' := [some (.ref 65), some (.int (nI n))]) (st' := [.int (-1000000003), .ref 65]) (h' := kv_wd (kv_up g 64 3 (g 64 3 + 1)) w) rfl ?_
                refine kx_call (z := 131) (as := [.ref 65, .int (-1000000003)]) (rest := []) (v := some (.int (-1000000003))) (h1 := kv_wd (kv_up (kv_up g 64 3 (g 64 3 + 1)) 70 3 ((kv_up g 64 3 (g 64 3 + 1)) 70 3 + 1)) w) rfl (ev_errs (d := 898) (-1000000003) 3 (by decide) (by decide)) ?_
                refine kx_st 0 (pc' := 32) (L' := [some (.ref 65), some (.int (nI n))]) (st' := [.int (-1000000003)]) (h' := kv_wd (kv_up (kv_up g 64 3 (g 64 3 + 1)) 70 3 ((kv_up g 64 3 (g 64 3 + 1)) 70 3 + 1)) w) rfl ?_
                refine kx_ret (v := some (.int (-1000000003))) rfl ?_
                exact ⟨rfl, _, _, rfl, kx_Rl_e hR⟩
            · exact absurd hv m7
        · exact absurd hv.2 h8
  · refine kx_two (by decide) (Nat.le_of_ble_eq_true rfl) (by decide) (Nat.le_of_ble_eq_true rfl) ?_
    refine kx_st 0 (pc' := 0) (L' := [some (.ref 0), some (.int a), none]) (st' := []) (h' := kv_wd g w) rfl ?_
    refine kx_st 2 (pc' := 2) (L' := [some (.ref 0), some (.int a), none]) (st' := [.int 2, .int a]) (h' := kv_wd g w) rfl ?_
    refine kx_bi (t := 11) rfl rfl (fun (h2 : a < 2) => ?_) (fun (h2 : ¬ (a < 2)) => ?_)
    · refine kx_st 2 (pc' := 13) (L' := [some (.ref 0), some (.int a), none]) (st' := [.int 1, .ref 0]) (h' := kv_wd g w) rfl ?_
      refine kx_call (z := 123) (as := [.ref 0, .int 1]) (rest := []) (v := some (.int (-1000000000 - nI 1))) (h1 := kv_wd (kv_up g 64 1 (g 64 1 + 1)) w) rfl (ev_error (d := 898) 1 (by decide) (by decide)) ?_
      refine kx_st 0 (pc' := 16) (L' := [some (.ref 0), some (.int a), none]) (st' := [.int (-1000000000 - nI 1)]) (h' := kv_wd (kv_up g 64 1 (g 64 1 + 1)) w) rfl ?_
      refine kx_ret (v := some (.int (-1000000000 - nI 1))) rfl ?_
      refine ⟨_, _, _, rfl, rfl, ?_⟩
      refine kx_st 0 (pc' := 0) (L' := [some (.ref 65), some (.int a)]) (st' := []) (h' := kv_wd (kv_up g 64 1 (g 64 1 + 1)) w) rfl ?_
      refine kx_st 3 (pc' := 4) (L' := [some (.ref 65), some (.int a)]) (st' := [.int 6, .int 2, .int a]) (h' := kv_wd (kv_up g 64 1 (g 64 1 + 1)) w) rfl ?_
      refine kx_call (z := 130) (as := [.int a, .int 2, .int 6]) (rest := []) (v := some (.int (kx_b (2 ≤ a ∧ a ≤ 6)))) (h1 := kv_wd (kv_up g 64 1 (g 64 1 + 1)) w) rfl (ev_in (d := 898) a 2 6) ?_
      refine kx_st 0 (pc' := 7) (L' := [some (.ref 65), some (.int a)]) (st' := [.int (kx_b (2 ≤ a ∧ a ≤ 6))]) (h' := kv_wd (kv_up g 64 1 (g 64 1 + 1)) w) rfl ?_
      refine kx_bn (t := 17) rfl rfl (fun (m7 : (2 ≤ a ∧ a ≤ 6)) => ?_) (fun (m7 : ¬ (2 ≤ a ∧ a ≤ 6)) => ?_)
      · exact absurd m7 hv
      · refine kx_st 0 (pc' := 10) (L' := [some (.ref 65), some (.int a)]) (st' := []) (h' := kv_wd (kv_up g 64 1 (g 64 1 + 1)) w) rfl ?_
        refine kx_st 2 (pc' := 13) (L' := [some (.ref 65), some (.int a)]) (st' := [.int (-1000000001), .ref 65]) (h' := kv_wd (kv_up g 64 1 (g 64 1 + 1)) w) rfl ?_
        refine kx_call (z := 131) (as := [.ref 65, .int (-1000000001)]) (rest := []) (v := some (.int (-1000000001))) (h1 := kv_wd (kv_up (kv_up g 64 1 (g 64 1 + 1)) 70 1 ((kv_up g 64 1 (g 64 1 + 1)) 70 1 + 1)) w) rfl (ev_errs (d := 898) (-1000000001) 1 (by decide) (by decide)) ?_
        refine kx_st 0 (pc' := 16) (L' := [some (.ref 65), some (.int a)]) (st' := [.int (-1000000001)]) (h' := kv_wd (kv_up (kv_up g 64 1 (g 64 1 + 1)) 70 1 ((kv_up g 64 1 (g 64 1 + 1)) 70 1 + 1)) w) rfl ?_
        refine kx_ret (v := some (.int (-1000000001))) rfl ?_
        exact ⟨rfl, _, _, rfl, kx_Rl_e hR⟩
    · refine kx_st 0 (pc' := 5) (L' := [some (.ref 0), some (.int a), none]) (st' := []) (h' := kv_wd g w) rfl ?_
      refine kx_st 2 (pc' := 8) (L' := [some (.ref 0), some (.int a), none]) (st' := [.int 6, .int a]) (h' := kv_wd g w) rfl ?_
      refine kx_bi (t := 17) rfl rfl (fun (h8 : a ≤ 6) => ?_) (fun (h8 : ¬ (a ≤ 6)) => ?_)
      · exact absurd ⟨Int32.not_lt.mp h2, h8⟩ hv
      · refine kx_st 0 (pc' := 11) (L' := [some (.ref 0), some (.int a), none]) (st' := []) (h' := kv_wd g w) rfl ?_
        refine kx_st 2 (pc' := 13) (L' := [some (.ref 0), some (.int a), none]) (st' := [.int 1, .ref 0]) (h' := kv_wd g w) rfl ?_
        refine kx_call (z := 123) (as := [.ref 0, .int 1]) (rest := []) (v := some (.int (-1000000000 - nI 1))) (h1 := kv_wd (kv_up g 64 1 (g 64 1 + 1)) w) rfl (ev_error (d := 898) 1 (by decide) (by decide)) ?_
        refine kx_st 0 (pc' := 16) (L' := [some (.ref 0), some (.int a), none]) (st' := [.int (-1000000000 - nI 1)]) (h' := kv_wd (kv_up g 64 1 (g 64 1 + 1)) w) rfl ?_
        refine kx_ret (v := some (.int (-1000000000 - nI 1))) rfl ?_
        refine ⟨_, _, _, rfl, rfl, ?_⟩
        refine kx_st 0 (pc' := 0) (L' := [some (.ref 65), some (.int a)]) (st' := []) (h' := kv_wd (kv_up g 64 1 (g 64 1 + 1)) w) rfl ?_
        refine kx_st 3 (pc' := 4) (L' := [some (.ref 65), some (.int a)]) (st' := [.int 6, .int 2, .int a]) (h' := kv_wd (kv_up g 64 1 (g 64 1 + 1)) w) rfl ?_
        refine kx_call (z := 130) (as := [.int a, .int 2, .int 6]) (rest := []) (v := some (.int (kx_b (2 ≤ a ∧ a ≤ 6)))) (h1 := kv_wd (kv_up g 64 1 (g 64 1 + 1)) w) rfl (ev_in (d := 898) a 2 6) ?_
        refine kx_st 0 (pc' := 7) (L' := [some (.ref 65), some (.int a)]) (st' := [.int (kx_b (2 ≤ a ∧ a ≤ 6))]) (h' := kv_wd (kv_up g 64 1 (g 64 1 + 1)) w) rfl ?_
        refine kx_bn (t := 17) rfl rfl (fun (m7 : (2 ≤ a ∧ a ≤ 6)) => ?_) (fun (m7 : ¬ (2 ≤ a ∧ a ≤ 6)) => ?_)
        · exact absurd m7 hv
        · refine kx_st 0 (pc' := 10) (L' := [some (.ref 65), some (.int a)]) (st' := []) (h' := kv_wd (kv_up g 64 1 (g 64 1 + 1)) w) rfl ?_
          refine kx_st 2 (pc' := 13) (L' := [some (.ref 65), some (.int a)]) (st' := [.int (-1000000001), .ref 65]) (h' := kv_wd (kv_up g 64 1 (g 64 1 + 1)) w) rfl ?_
          refine kx_call (z := 131) (as := [.ref 65, .int (-1000000001)]) (rest := []) (v := some (.int (-1000000001))) (h1 := kv_wd (kv_up (kv_up g 64 1 (g 64 1 + 1)) 70 1 ((kv_up g 64 1 (g 64 1 + 1)) 70 1 + 1)) w) rfl (ev_errs (d := 898) (-1000000001) 1 (by decide) (by decide)) ?_
          refine kx_st 0 (pc' := 16) (L' := [some (.ref 65), some (.int a)]) (st' := [.int (-1000000001)]) (h' := kv_wd (kv_up (kv_up g 64 1 (g 64 1 + 1)) 70 1 ((kv_up g 64 1 (g 64 1 + 1)) 70 1 + 1)) w) rfl ?_
          refine kx_ret (v := some (.int (-1000000001))) rfl ?_
          exact ⟨rfl, _, _, rfl, kx_Rl_e hR⟩
def kx_jr (e m n : Nat) : Int32 := if e = m ∧ e = n then -1 else nI e
end KP10
set_option maxRecDepth 100000 in
theorem lp_xjudge {E : kv_V} {d : Nat} {g : kv_S} {w : kv_W} (hq : kv_qok w) (k : Nat) (hk : k < 4) (n m e : Nat) (hn : g (56 + 2 * k) 1 = nI n) (n40 : n ≤ 40) (hm : g 1 4 = nI m) (m8 : m ≤ 8) (he : e ≤ min n m) (hp : ∀ j, j < e → g (57 + 2 * k) j = g (14 + j) 4) (hx : e = min n m ∨ ¬ g (57 + 2 * k) e = g (14 + e) 4) {P : Option Value → kv_H → Prop} (hP : P (some (.int (kx_jr e m n))) (kv_wd g w)) : ∀ nz j : Nat, j + nz = e → kx_V E d 116 47 [some (.ref 0), some (.int (nI k)), some (.ref (56 + 2 * k)), some (.int (nI (min n m))), some (.int (nI j))] [] (kv_wd g w) P := by
  intro nz
  induction nz with
  | zero =>
    intro j hkk
    have hkN : j = e := by omega
    have hmn := Nat.min_le_left n m
    have hmm := Nat.min_le_right n m
    refine kx_st 2 (pc' := 50) (L' := [some (.ref 0), some (.int (nI k)), some (.ref (56 + 2 * k)), some (.int (nI (min n m))), some (.int (nI j))]) (st' := [.int (nI (min n m)), .int (nI j)]) (h' := kv_wd g w) rfl ?_
    refine kx_bi (t := 85) rfl rfl (fun (h50 : nI (min n m) ≤ nI j) => ?_) (fun (h50 : ¬ (nI (min n m) ≤ nI j)) => ?_)
    · refine kx_st 1 (pc' := 86) (L' := [some (.ref 0), some (.int (nI k)), some (.ref (56 + 2 * k)), some (.int (nI (min n m))), some (.int (nI j))]) (st' := [.ref (56 + 2 * k)]) (h' := kv_wd g w) rfl ?_
      refine kx_gf (i := 257) (k := 1) (v := .int (g (56 + 2 * k) 1)) rfl rfl (by have := (kv_st_h hk).1; omega) ((kv_st_h hk).2.1 _ _) rfl ?_
      refine kx_st 3 (pc' := 96) (L' := [some (.ref 0), some (.int (nI k)), some (.ref (56 + 2 * k)), some (.int (nI (min n m))), some (.int (nI j))]) (st' := [.int (g 1 4), .int (g (56 + 2 * k) 1)]) (h' := kv_wd g w) rfl ?_
      refine kx_bi (t := 103) rfl rfl (fun (h96 : ¬ g (56 + 2 * k) 1 = g 1 4) => ?_) (fun (h96 : ¬ (¬ g (56 + 2 * k) 1 = g 1 4)) => ?_)
      · refine kx_st 1 (pc' := 104) (L' := [some (.ref 0), some (.int (nI k)), some (.ref (56 + 2 * k)), some (.int (nI (min n m))), some (.int (nI j))]) (st' := [.int (nI (min n m))]) (h' := kv_wd g w) rfl ?_
        refine kx_ret (v := some (.int (nI (min n m)))) rfl ?_
        unfold kx_jr at hP
        have h50 : min n m ≤ j := by rw [Int32.le_iff_toInt_le, nI_toInt (by omega), nI_toInt (by omega)] at h50; omega
        have h96 : n ≠ m := fun z => h96 (by rw [hn, hm, z])
        rw [if_neg (by omega), show e = min n m by omega] at hP
        exact hP
      · refine kx_st 0 (pc' := 99) (L' := [some (.ref 0), some (.int (nI k)), some (.ref (56 + 2 * k)), some (.int (nI (min n m))), some (.int (nI j))]) (st' := []) (h' := kv_wd g w) rfl ?_
        refine kx_st 2 (pc' := 104) (L' := [some (.ref 0), some (.int (nI k)), some (.ref (56 + 2 * k)), some (.int (nI (min n m))), some (.int (nI j))]) (st' := [.int (-1)]) (h' := kv_wd g w) rfl ?_
        refine kx_ret (v := some (.int (-1))) rfl ?_
        unfold kx_jr at hP
        have h50 : min n m ≤ j := by rw [Int32.le_iff_toInt_le, nI_toInt (by omega), nI_toInt (by omega)] at h50; omega
        have h96 : n = m := by rw [hn, hm] at h96; exact kx_nI_inj (by omega) (by omega) (Classical.not_not.mp h96)
        rw [if_pos (by omega)] at hP
        exact hP
    · have h50b : j < min n m := by have := h50; rw [Int32.le_iff_toInt_le, nI_toInt (by omega), nI_toInt (by omega)] at this; omega
      refine kx_st 0 (pc' := 53) (L' := [some (.ref 0), some (.int (nI k)), some (.ref (56 + 2 * k)), some (.int (nI (min n m))), some (.int (nI j))]) (st' := []) (h' := kv_wd g w) rfl ?_
      refine kx_st 1 (pc' := 54) (L' := [some (.ref 0), some (.int (nI k)), some (.ref (56 + 2 * k)), some (.int (nI (min n m))), some (.int (nI j))]) (st' := [.ref (56 + 2 * k)]) (h' := kv_wd g w) rfl ?_
      refine kx_gf (i := 263) (k := 2) (v := .ref (57 + 2 * k)) rfl rfl (by have := (kv_st_h hk).1; omega) ((kv_st_h hk).2.1 _ _) rfl ?_
      refine kx_st 1 (pc' := 59) (L' := [some (.ref 0), some (.int (nI k)), some (.ref (56 + 2 * k)), some (.int (nI (min n m))), some (.int (nI j))]) (st' := [.int (nI j), .ref (57 + 2 * k)]) (h' := kv_wd g w) rfl ?_
      refine kx_ia (k := j) rfl (kv_st_h hk).2.2 (kv_st_h hk).1 rfl (by omega) (by decide) ?_
      refine kx_st 4 (pc' := 69) (L' := [some (.ref 0), some (.int (nI k)), some (.ref (56 + 2 * k)), some (.int (nI (min n m))), some (.int (nI j))]) (st' := [.int (nI j), .ref 5, .int (g (57 + 2 * k) j)]) (h' := kv_wd g w) rfl ?_
      refine kx_aa (t := 2) (k := j) (b := (14 + j)) rfl rfl (by decide) (by decide) rfl (by omega) (by decide) (hq.1 _ (by omega)) ?_
      refine kx_gf (i := 245) (k := 4) (v := .int (g (14 + j) 4)) rfl rfl (kv_kn_h (by omega : j < 8)).1 ((kv_kn_h (by omega : j < 8)).2 _ _) rfl ?_
      refine kx_bi (t := 79) rfl rfl (fun (h73 : g (57 + 2 * k) j = g (14 + j) 4) => ?_) (fun (h73 : ¬ (g (57 + 2 * k) j = g (14 + j) 4)) => ?_)
      · exact absurd h73 (by subst hkN; exact hx.resolve_left (fun hx => h50 (nI_le (by omega) (by omega))))
      · refine kx_st 0 (pc' := 76) (L' := [some (.ref 0), some (.int (nI k)), some (.ref (56 + 2 * k)), some (.int (nI (min n m))), some (.int (nI j))]) (st' := []) (h' := kv_wd g w) rfl ?_
        refine kx_st 1 (pc' := 78) (L' := [some (.ref 0), some (.int (nI k)), some (.ref (56 + 2 * k)), some (.int (nI (min n m))), some (.int (nI j))]) (st' := [.int (nI j)]) (h' := kv_wd g w) rfl ?_
        refine kx_ret (v := some (.int (nI j))) rfl ?_
        unfold kx_jr at hP
        rw [if_neg (fun z => h50 (nI_le (by omega) (by omega)))] at hP
        rw [hkN]
        exact hP
  | succ nz ih =>
    intro j hkk
    have hmn := Nat.min_le_left n m
    have hmm := Nat.min_le_right n m
    refine kx_st 2 (pc' := 50) (L' := [some (.ref 0), some (.int (nI k)), some (.ref (56 + 2 * k)), some (.int (nI (min n m))), some (.int (nI j))]) (st' := [.int (nI (min n m)), .int (nI j)]) (h' := kv_wd g w) rfl ?_
    refine kx_bi (t := 85) rfl rfl (fun (h50 : nI (min n m) ≤ nI j) => ?_) (fun (h50 : ¬ (nI (min n m) ≤ nI j)) => ?_)
    · exact absurd h50 (nI_ge (a := j) (b := min n m) (by omega) (by omega))
    · refine kx_st 0 (pc' := 53) (L' := [some (.ref 0), some (.int (nI k)), some (.ref (56 + 2 * k)), some (.int (nI (min n m))), some (.int (nI j))]) (st' := []) (h' := kv_wd g w) rfl ?_
      refine kx_st 1 (pc' := 54) (L' := [some (.ref 0), some (.int (nI k)), some (.ref (56 + 2 * k)), some (.int (nI (min n m))), some (.int (nI j))]) (st' := [.ref (56 + 2 * k)]) (h' := kv_wd g w) rfl ?_
      refine kx_gf (i := 263) (k := 2) (v := .ref (57 + 2 * k)) rfl rfl (by have := (kv_st_h hk).1; omega) ((kv_st_h hk).2.1 _ _) rfl ?_
      refine kx_st 1 (pc' := 59) (L' := [some (.ref 0), some (.int (nI k)), some (.ref (56 + 2 * k)), some (.int (nI (min n m))), some (.int (nI j))]) (st' := [.int (nI j), .ref (57 + 2 * k)]) (h' := kv_wd g w) rfl ?_
      refine kx_ia (k := j) rfl (kv_st_h hk).2.2 (kv_st_h hk).1 rfl (by omega) (by decide) ?_
      refine kx_st 4 (pc' := 69) (L' := [some (.ref 0), some (.int (nI k)), some (.ref (56 + 2 * k)), some (.int (nI (min n m))), some (.int (nI j))]) (st' := [.int (nI j), .ref 5, .int (g (57 + 2 * k) j)]) (h' := kv_wd g w) rfl ?_
      refine kx_aa (t := 2) (k := j) (b := (14 + j)) rfl rfl (by decide) (by decide) rfl (by omega) (by decide) (hq.1 _ (by omega)) ?_
      refine kx_gf (i := 245) (k := 4) (v := .int (g (14 + j) 4)) rfl rfl (kv_kn_h (by omega : j < 8)).1 ((kv_kn_h (by omega : j < 8)).2 _ _) rfl ?_
      refine kx_bi (t := 79) rfl rfl (fun (h73 : g (57 + 2 * k) j = g (14 + j) 4) => ?_) (fun (h73 : ¬ (g (57 + 2 * k) j = g (14 + j) 4)) => ?_)
      · refine kx_st 2 (pc' := 47) (L' := [some (.ref 0), some (.int (nI k)), some (.ref (56 + 2 * k)), some (.int (nI (min n m))), some (.int ((nI j) + 1))]) (st' := []) (h' := kv_wd g w) rfl ?_
        rw [← nI_succ]
        exact ih (j + 1) (by omega)
      · exact absurd (hp j (by omega)) h73
set_option maxRecDepth 100000 in
theorem lp_mjudge {E : kv_V} {d : Nat} {g : kv_S} {w : kv_W} (k : Nat) (hk : k < 4) (n m e : Nat) (hn : g 72 k = nI n) (n40 : n ≤ 40) (hm : g 66 2 = nI m) (m8 : m ≤ 8) (he : e ≤ min n m) (hp : ∀ j, j < e → g 73 (40 * k + j) = g 66 (26 + 9 * j + 4)) (hx : e = min n m ∨ ¬ g 73 (40 * k + e) = g 66 (26 + 9 * e + 4)) {P : Option Value → kv_H → Prop} (hP : P (some (.int (kx_jr e m n))) (kv_wd g w)) : ∀ nz j : Nat, j + nz = e → kx_V E (d + 1) 215 32 [some (.ref 65), some (.int (nI k)), some (.int (nI j))] [] (kv_wd g w) P := by
  intro nz
  induction nz with
  | zero =>
    intro j hkk
    have hkN : j = e := by omega
    have hmn := Nat.min_le_left n m
    have hmm := Nat.min_le_right n m
    refine kx_st 4 (pc' := 38) (L' := [some (.ref 65), some (.int (nI k)), some (.int (nI j))]) (st' := [.int 2, .ref 66, .int (nI j)]) (h' := kv_wd g w) rfl ?_
    refine kx_ia (k := 2) rfl rfl (by decide) rfl (by decide) (by decide) ?_
    refine kx_bi (t := 78) rfl rfl (fun (h39 : g 66 2 ≤ nI j) => ?_) (fun (h39 : ¬ (g 66 2 ≤ nI j)) => ?_)
    · refine kx_st 4 (pc' := 84) (L' := [some (.ref 65), some (.int (nI k)), some (.int (nI j))]) (st' := [.int 2, .ref 66, .int (nI j)]) (h' := kv_wd g w) rfl ?_
      refine kx_ia (k := 2) rfl rfl (by decide) rfl (by decide) (by decide) ?_
      refine kx_bi (t := 102) rfl rfl (fun (h85 : ¬ nI j = g 66 2) => ?_) (fun (h85 : ¬ (¬ nI j = g 66 2)) => ?_)
      · refine kx_st 1 (pc' := 103) (L' := [some (.ref 65), some (.int (nI k)), some (.int (nI j))]) (st' := [.int (nI j)]) (h' := kv_wd g w) rfl ?_
        refine kx_ret (v := some (.int (nI j))) rfl ?_
        unfold kx_jr at hP
        have h85 : j ≠ m := fun z => h85 (by rw [hm, z])
        rw [if_neg (by omega)] at hP
        rw [hkN]
        exact hP
      · refine kx_st 0 (pc' := 88) (L' := [some (.ref 65), some (.int (nI k)), some (.int (nI j))]) (st' := []) (h' := kv_wd g w) rfl ?_
        refine kx_st 4 (pc' := 94) (L' := [some (.ref 65), some (.int (nI k)), some (.int (nI j))]) (st' := [.int (nI k), .ref 72, .int (nI j)]) (h' := kv_wd g w) rfl ?_
        refine kx_ia (k := k) rfl rfl (by decide) rfl (by omega) (by decide) ?_
        refine kx_bi (t := 102) rfl rfl (fun (h95 : ¬ nI j = g 72 k) => ?_) (fun (h95 : ¬ (¬ nI j = g 72 k)) => ?_)
        · refine kx_st 1 (pc' := 103) (L' := [some (.ref 65), some (.int (nI k)), some (.int (nI j))]) (st' := [.int (nI j)]) (h' := kv_wd g w) rfl ?_
          refine kx_ret (v := some (.int (nI j))) rfl ?_
          unfold kx_jr at hP
          have h95 : j ≠ n := fun z => h95 (by rw [hn, z])
          rw [if_neg (by omega)] at hP
          rw [hkN]
          exact hP
        · refine kx_st 0 (pc' := 98) (L' := [some (.ref 65), some (.int (nI k)), some (.int (nI j))]) (st' := []) (h' := kv_wd g w) rfl ?_
          refine kx_st 2 (pc' := 103) (L' := [some (.ref 65), some (.int (nI k)), some (.int (nI j))]) (st' := [.int (-1)]) (h' := kv_wd g w) rfl ?_
          refine kx_ret (v := some (.int (-1))) rfl ?_
          unfold kx_jr at hP
          have h85 : j = m := by rw [hm] at h85; exact kx_nI_inj (by omega) (by omega) (Classical.not_not.mp h85)
          have h95 : j = n := by rw [hn] at h95; exact kx_nI_inj (by omega) (by omega) (Classical.not_not.mp h95)
          rw [if_pos (by omega)] at hP
          exact hP
    · refine kx_st 0 (pc' := 42) (L' := [some (.ref 65), some (.int (nI k)), some (.int (nI j))]) (st' := []) (h' := kv_wd g w) rfl ?_
      refine kx_st 4 (pc' := 48) (L' := [some (.ref 65), some (.int (nI k)), some (.int (nI j))]) (st' := [.int (nI k), .ref 72, .int (nI j)]) (h' := kv_wd g w) rfl ?_
      refine kx_ia (k := k) rfl rfl (by decide) rfl (by omega) (by decide) ?_
      refine kx_bi (t := 78) rfl rfl (fun (h49 : g 72 k ≤ nI j) => ?_) (fun (h49 : ¬ (g 72 k ≤ nI j)) => ?_)
      · refine kx_st 4 (pc' := 84) (L' := [some (.ref 65), some (.int (nI k)), some (.int (nI j))]) (st' := [.int 2, .ref 66, .int (nI j)]) (h' := kv_wd g w) rfl ?_
        refine kx_ia (k := 2) rfl rfl (by decide) rfl (by decide) (by decide) ?_
        refine kx_bi (t := 102) rfl rfl (fun (h85 : ¬ nI j = g 66 2) => ?_) (fun (h85 : ¬ (¬ nI j = g 66 2)) => ?_)
        · refine kx_st 1 (pc' := 103) (L' := [some (.ref 65), some (.int (nI k)), some (.int (nI j))]) (st' := [.int (nI j)]) (h' := kv_wd g w) rfl ?_
          refine kx_ret (v := some (.int (nI j))) rfl ?_
          unfold kx_jr at hP
          have h85 : j ≠ m := fun z => h85 (by rw [hm, z])
          rw [if_neg (by omega)] at hP
          rw [hkN]
          exact hP
        · refine kx_st 0 (pc' := 88) (L' := [some (.ref 65), some (.int (nI k)), some (.int (nI j))]) (st' := []) (h' := kv_wd g w) rfl ?_
          refine kx_st 4 (pc' := 94) (L' := [some (.ref 65), some (.int (nI k)), some (.int (nI j))]) (st' := [.int (nI k), .ref 72, .int (nI j)]) (h' := kv_wd g w) rfl ?_
          refine kx_ia (k := k) rfl rfl (by decide) rfl (by omega) (by decide) ?_
          refine kx_bi (t := 102) rfl rfl (fun (h95 : ¬ nI j = g 72 k) => ?_) (fun (h95 : ¬ (¬ nI j = g 72 k)) => ?_)
          · refine kx_st 1 (pc' := 103) (L' := [some (.ref 65), some (.int (nI k)), some (.int (nI j))]) (st' := [.int (nI j)]) (h' := kv_wd g w) rfl ?_
            refine kx_ret (v := some (.int (nI j))) rfl ?_
            unfold kx_jr at hP
            have h95 : j ≠ n := fun z => h95 (by rw [hn, z])
            rw [if_neg (by omega)] at hP
            rw [hkN]
            exact hP
          · refine kx_st 0 (pc' := 98) (L' := [some (.ref 65), some (.int (nI k)), some (.int (nI j))]) (st' := []) (h' := kv_wd g w) rfl ?_
            refine kx_st 2 (pc' := 103) (L' := [some (.ref 65), some (.int (nI k)), some (.int (nI j))]) (st' := [.int (-1)]) (h' := kv_wd g w) rfl ?_
            refine kx_ret (v := some (.int (-1))) rfl ?_
            unfold kx_jr at hP
            have h85 : j = m := by rw [hm] at h85; exact kx_nI_inj (by omega) (by omega) (Classical.not_not.mp h85)
            have h95 : j = n := by rw [hn] at h95; exact kx_nI_inj (by omega) (by omega) (Classical.not_not.mp h95)
            rw [if_pos (by omega)] at hP
            exact hP
      · refine kx_st 0 (pc' := 52) (L' := [some (.ref 65), some (.int (nI k)), some (.int (nI j))]) (st' := []) (h' := kv_wd g w) rfl ?_
        refine kx_st 7 (pc' := 62) (L' := [some (.ref 65), some (.int (nI k)), some (.int (nI j))]) (st' := [.int ((40 * (nI k)) + (nI j)), .ref 73]) (h' := kv_wd g w) rfl ?_
        refine kx_ia (k := (40 * k + j)) rfl rfl (by decide) (kx_i40 k j) (by omega) (by decide) ?_
        refine kx_st 3 (pc' := 66) (L' := [some (.ref 65), some (.int (nI k)), some (.int (nI j))]) (st' := [.int 4, .int (nI j), .ref 65, .int (g 73 (40 * k + j))]) (h' := kv_wd g w) rfl ?_
        refine kx_call (z := 136) (as := [.ref 65, .int (nI j), .int 4]) (rest := [.int (g 73 (40 * k + j))]) (v := some (.int (g 66 (26 + 9 * j + 4)))) (h1 := kv_wd g w) rfl (ev_its (d := d) j 4 (by omega)) ?_
        refine kx_st 0 (pc' := 69) (L' := [some (.ref 65), some (.int (nI k)), some (.int (nI j))]) (st' := [.int (g 66 (26 + 9 * j + 4)), .int (g 73 (40 * k + j))]) (h' := kv_wd g w) rfl ?_
        refine kx_bi (t := 78) rfl rfl (fun (h69 : ¬ g 73 (40 * k + j) = g 66 (26 + 9 * j + 4)) => ?_) (fun (h69 : ¬ (¬ g 73 (40 * k + j) = g 66 (26 + 9 * j + 4))) => ?_)
        · refine kx_st 4 (pc' := 84) (L' := [some (.ref 65), some (.int (nI k)), some (.int (nI j))]) (st' := [.int 2, .ref 66, .int (nI j)]) (h' := kv_wd g w) rfl ?_
          refine kx_ia (k := 2) rfl rfl (by decide) rfl (by decide) (by decide) ?_
          refine kx_bi (t := 102) rfl rfl (fun (h85 : ¬ nI j = g 66 2) => ?_) (fun (h85 : ¬ (¬ nI j = g 66 2)) => ?_)
          · refine kx_st 1 (pc' := 103) (L' := [some (.ref 65), some (.int (nI k)), some (.int (nI j))]) (st' := [.int (nI j)]) (h' := kv_wd g w) rfl ?_
            refine kx_ret (v := some (.int (nI j))) rfl ?_
            unfold kx_jr at hP
            have h85 : j ≠ m := fun z => h85 (by rw [hm, z])
            rw [if_neg (by omega)] at hP
            rw [hkN]
            exact hP
          · refine kx_st 0 (pc' := 88) (L' := [some (.ref 65), some (.int (nI k)), some (.int (nI j))]) (st' := []) (h' := kv_wd g w) rfl ?_
            refine kx_st 4 (pc' := 94) (L' := [some (.ref 65), some (.int (nI k)), some (.int (nI j))]) (st' := [.int (nI k), .ref 72, .int (nI j)]) (h' := kv_wd g w) rfl ?_
            refine kx_ia (k := k) rfl rfl (by decide) rfl (by omega) (by decide) ?_
            refine kx_bi (t := 102) rfl rfl (fun (h95 : ¬ nI j = g 72 k) => ?_) (fun (h95 : ¬ (¬ nI j = g 72 k)) => ?_)
            · refine kx_st 1 (pc' := 103) (L' := [some (.ref 65), some (.int (nI k)), some (.int (nI j))]) (st' := [.int (nI j)]) (h' := kv_wd g w) rfl ?_
              refine kx_ret (v := some (.int (nI j))) rfl ?_
              unfold kx_jr at hP
              have h95 : j ≠ n := fun z => h95 (by rw [hn, z])
              rw [if_neg (by omega)] at hP
              rw [hkN]
              exact hP
            · refine kx_st 0 (pc' := 98) (L' := [some (.ref 65), some (.int (nI k)), some (.int (nI j))]) (st' := []) (h' := kv_wd g w) rfl ?_
              refine kx_st 2 (pc' := 103) (L' := [some (.ref 65), some (.int (nI k)), some (.int (nI j))]) (st' := [.int (-1)]) (h' := kv_wd g w) rfl ?_
              refine kx_ret (v := some (.int (-1))) rfl ?_
              unfold kx_jr at hP
              have h85 : j = m := by rw [hm] at h85; exact kx_nI_inj (by omega) (by omega) (Classical.not_not.mp h85)
              have h95 : j = n := by rw [hn] at h95; exact kx_nI_inj (by omega) (by omega) (Classical.not_not.mp h95)
              rw [if_pos (by omega)] at hP
              exact hP
        · exact absurd (Classical.not_not.mp h69) (by subst hkN; exact hx.resolve_left (fun hx => by have f1 : ¬ m ≤ j := (fun z => h39 (by rw [hm]; exact nI_le z (by omega))); have f2 : ¬ n ≤ j := (fun z => h49 (by rw [hn]; exact nI_le z (by omega))); omega))
  | succ nz ih =>
    intro j hkk
    have hmn := Nat.min_le_left n m
    have hmm := Nat.min_le_right n m
    refine kx_st 4 (pc' := 38) (L' := [some (.ref 65), some (.int (nI k)), some (.int (nI j))]) (st' := [.int 2, .ref 66, .int (nI j)]) (h' := kv_wd g w) rfl ?_
    refine kx_ia (k := 2) rfl rfl (by decide) rfl (by decide) (by decide) ?_
    refine kx_bi (t := 78) rfl rfl (fun (h39 : g 66 2 ≤ nI j) => ?_) (fun (h39 : ¬ (g 66 2 ≤ nI j)) => ?_)
    · exact absurd h39 (by rw [hm]; exact nI_ge (a := j) (b := m) (by omega) (by omega))
    · refine kx_st 0 (pc' := 42) (L' := [some (.ref 65), some (.int (nI k)), some (.int (nI j))]) (st' := []) (h' := kv_wd g w) rfl ?_
      refine kx_st 4 (pc' := 48) (L' := [some (.ref 65), some (.int (nI k)), some (.int (nI j))]) (st' := [.int (nI k), .ref 72, .int (nI j)]) (h' := kv_wd g w) rfl ?_
      refine kx_ia (k := k) rfl rfl (by decide) rfl (by omega) (by decide) ?_
      refine kx_bi (t := 78) rfl rfl (fun (h49 : g 72 k ≤ nI j) => ?_) (fun (h49 : ¬ (g 72 k ≤ nI j)) => ?_)
      · exact absurd h49 (by rw [hn]; exact nI_ge (a := j) (b := n) (by omega) (by omega))
      · refine kx_st 0 (pc' := 52) (L' := [some (.ref 65), some (.int (nI k)), some (.int (nI j))]) (st' := []) (h' := kv_wd g w) rfl ?_
        refine kx_st 7 (pc' := 62) (L' := [some (.ref 65), some (.int (nI k)), some (.int (nI j))]) (st' := [.int ((40 * (nI k)) + (nI j)), .ref 73]) (h' := kv_wd g w) rfl ?_
        refine kx_ia (k := (40 * k + j)) rfl rfl (by decide) (kx_i40 k j) (by omega) (by decide) ?_
        refine kx_st 3 (pc' := 66) (L' := [some (.ref 65), some (.int (nI k)), some (.int (nI j))]) (st' := [.int 4, .int (nI j), .ref 65, .int (g 73 (40 * k + j))]) (h' := kv_wd g w) rfl ?_
        refine kx_call (z := 136) (as := [.ref 65, .int (nI j), .int 4]) (rest := [.int (g 73 (40 * k + j))]) (v := some (.int (g 66 (26 + 9 * j + 4)))) (h1 := kv_wd g w) rfl (ev_its (d := d) j 4 (by omega)) ?_
        refine kx_st 0 (pc' := 69) (L' := [some (.ref 65), some (.int (nI k)), some (.int (nI j))]) (st' := [.int (g 66 (26 + 9 * j + 4)), .int (g 73 (40 * k + j))]) (h' := kv_wd g w) rfl ?_
        refine kx_bi (t := 78) rfl rfl (fun (h69 : ¬ g 73 (40 * k + j) = g 66 (26 + 9 * j + 4)) => ?_) (fun (h69 : ¬ (¬ g 73 (40 * k + j) = g 66 (26 + 9 * j + 4))) => ?_)
        · exact absurd (hp j (by omega)) h69
        · refine kx_st 0 (pc' := 72) (L' := [some (.ref 65), some (.int (nI k)), some (.int (nI j))]) (st' := []) (h' := kv_wd g w) rfl ?_
          refine kx_st 2 (pc' := 32) (L' := [some (.ref 65), some (.int (nI k)), some (.int ((nI j) + 1))]) (st' := []) (h' := kv_wd g w) rfl ?_
          rw [← nI_succ]
          exact ih (j + 1) (by omega)
section KP10b
variable {E : kv_V} {lr : kx_LR}
set_option maxRecDepth 100000 in
theorem pr_judge (a : Int32) : kx_ok2 E (kx_Rl lr) 116 215 [.int a] := by
  intro g w i hR hi
  have hR0 := hR
  obtain ⟨q, cu, ⟨H1, H2, H3, H4, H5, hz, l0, l1⟩, im, sh, tr, er⟩ := id hR
  obtain ⟨s, t, m, ⟨a1, a2, a3, a4⟩, ⟨b1, b2⟩, ⟨c1, c2⟩, ⟨d1, d2⟩, hk⟩ := id H1
  by_cases hv : 0 ≤ a ∧ a ≤ 3
  · obtain ⟨k, hk3, rfl⟩ := kx_nIof (n := 3) hv.1 hv.2 (by omega)
    have hk4 : k < 4 := by omega
    obtain ⟨s1, s2, ⟨n, n40, n2⟩, s4⟩ := kx_sh_at sh hk4
    by_cases hb : g 71 k = 0
    · refine kx_two (by decide) (Nat.le_of_ble_eq_true rfl) (by decide) (Nat.le_of_ble_eq_true rfl) ?_
      refine kx_st 0 (pc' := 0) (L' := [some (.ref 0), some (.int (nI k)), none, none, none]) (st' := []) (h' := kv_wd g w) rfl ?_
      refine kx_st 2 (pc' := 2) (L' := [some (.ref 0), some (.int (nI k)), none, none, none]) (st' := [.int (nI k), .ref 0]) (h' := kv_wd g w) rfl ?_
      refine kx_call (z := 127) (as := [.ref 0, .int (nI k)]) (rest := []) (v := some (.ref (56 + 2 * k))) (h1 := kv_wd g w) rfl (ev_sheetAt (d := 898) q k hk4) ?_
      refine kx_st 0 (pc' := 5) (L' := [some (.ref 0), some (.int (nI k)), none, none, none]) (st' := [.ref (56 + 2 * k)]) (h' := kv_wd g w) rfl ?_
      refine kx_st 2 (pc' := 7) (L' := [some (.ref 0), some (.int (nI k)), some (.ref (56 + 2 * k)), none, none]) (st' := [.ref (56 + 2 * k)]) (h' := kv_wd g w) rfl ?_
      refine kx_st 1 (pc' := 16) (L' := [some (.ref 0), some (.int (nI k)), some (.ref (56 + 2 * k)), none, none]) (st' := []) (h' := kv_wd g w) rfl ?_
      refine kx_st 1 (pc' := 17) (L' := [some (.ref 0), some (.int (nI k)), some (.ref (56 + 2 * k)), none, none]) (st' := [.ref (56 + 2 * k)]) (h' := kv_wd g w) rfl ?_
      refine kx_gf (i := 254) (k := 0) (v := .int (g (56 + 2 * k) 0)) rfl rfl (by have := (kv_st_h hk4).1; omega) ((kv_st_h hk4).2.1 _ _) rfl ?_
      refine kx_bc (t := 29) rfl rfl (fun (h20 : ¬ g (56 + 2 * k) 0 = 0) => ?_) (fun (h20 : ¬ (¬ g (56 + 2 * k) 0 = 0)) => ?_)
      · exact absurd (s1.trans hb) h20
      · refine kx_st 0 (pc' := 23) (L' := [some (.ref 0), some (.int (nI k)), some (.ref (56 + 2 * k)), none, none]) (st' := []) (h' := kv_wd g w) rfl ?_
        refine kx_st 2 (pc' := 25) (L' := [some (.ref 0), some (.int (nI k)), some (.ref (56 + 2 * k)), none, none]) (st' := [.int 2, .ref 0]) (h' := kv_wd g w) rfl ?_
        refine kx_call (z := 123) (as := [.ref 0, .int 2]) (rest := []) (v := some (.int (-1000000000 - nI 2))) (h1 := kv_wd (kv_up g 64 2 (g 64 2 + 1)) w) rfl (ev_error (d := 898) 2 (by decide) (by decide)) ?_
        refine kx_st 0 (pc' := 28) (L' := [some (.ref 0), some (.int (nI k)), some (.ref (56 + 2 * k)), none, none]) (st' := [.int (-1000000000 - nI 2)]) (h' := kv_wd (kv_up g 64 2 (g 64 2 + 1)) w) rfl ?_
        refine kx_ret (v := some (.int (-1000000000 - nI 2))) rfl ?_
        refine ⟨_, _, _, rfl, rfl, ?_⟩
        refine kx_st 0 (pc' := 0) (L' := [some (.ref 65), some (.int (nI k)), none]) (st' := []) (h' := kv_wd (kv_up g 64 2 (g 64 2 + 1)) w) rfl ?_
        refine kx_st 1 (pc' := 1) (L' := [some (.ref 65), some (.int (nI k)), none]) (st' := [.int (nI k)]) (h' := kv_wd (kv_up g 64 2 (g 64 2 + 1)) w) rfl ?_
        refine kx_call (z := 200) (as := [.int (nI k)]) (rest := []) (v := some (.int (kx_b (0 ≤ nI k ∧ nI k ≤ 3)))) (h1 := kv_wd (kv_up g 64 2 (g 64 2 + 1)) w) rfl (ev_isSheet (d := 897) (nI k)) ?_
        refine kx_st 0 (pc' := 4) (L' := [some (.ref 65), some (.int (nI k)), none]) (st' := [.int (kx_b (0 ≤ nI k ∧ nI k ≤ 3))]) (h' := kv_wd (kv_up g 64 2 (g 64 2 + 1)) w) rfl ?_
        refine kx_bn (t := 14) rfl rfl (fun (m4 : (0 ≤ nI k ∧ nI k ≤ 3)) => ?_) (fun (m4 : ¬ (0 ≤ nI k ∧ nI k ≤ 3)) => ?_)
        · refine kx_st 3 (pc' := 19) (L' := [some (.ref 65), some (.int (nI k)), none]) (st' := [.int (nI k), .ref 71]) (h' := kv_wd (kv_up g 64 2 (g 64 2 + 1)) w) rfl ?_
          refine kx_ia (k := k) rfl rfl (by decide) rfl (by omega) (by decide) ?_
          refine kx_bc (t := 30) rfl rfl (fun (m20 : ¬ (kv_up g 64 2 (g 64 2 + 1)) 71 k = 0) => ?_) (fun (m20 : ¬ (¬ (kv_up g 64 2 (g 64 2 + 1)) 71 k = 0)) => ?_)
          · exact absurd hb m20
          · refine kx_st 0 (pc' := 23) (L' := [some (.ref 65), some (.int (nI k)), none]) (st' := []) (h' := kv_wd (kv_up g 64 2 (g 64 2 + 1)) w) rfl ?_
            refine kx_st 2 (pc' := 26) (L' := [some (.ref 65), some (.int (nI k)), none]) (st' := [.int (-1000000002), .ref 65]) (h' := kv_wd (kv_up g 64 2 (g 64 2 + 1)) w) rfl ?_
            refine kx_call (z := 131) (as := [.ref 65, .int (-1000000002)]) (rest := []) (v := some (.int (-1000000002))) (h1 := kv_wd (kv_up (kv_up g 64 2 (g 64 2 + 1)) 70 2 ((kv_up g 64 2 (g 64 2 + 1)) 70 2 + 1)) w) rfl (ev_errs (d := 898) (-1000000002) 2 (by decide) (by decide)) ?_
            refine kx_st 0 (pc' := 29) (L' := [some (.ref 65), some (.int (nI k)), none]) (st' := [.int (-1000000002)]) (h' := kv_wd (kv_up (kv_up g 64 2 (g 64 2 + 1)) 70 2 ((kv_up g 64 2 (g 64 2 + 1)) 70 2 + 1)) w) rfl ?_
            refine kx_ret (v := some (.int (-1000000002))) rfl ?_
            exact ⟨rfl, _, _, rfl, kx_Rl_e hR⟩
        · exact absurd hv m4
    · obtain ⟨e, he, hp, hx⟩ := kx_first (fun j => g 73 (40 * k + j) = g 66 (26 + 9 * j + 4)) (min n m)
      have hmn := Nat.min_le_left n m
      have hmm := Nat.min_le_right n m
      have f4 : ∀ j, j < m → g (14 + j) 4 = g 66 (26 + 9 * j + 4) := fun j hj => by have := (hk j hj).1 4 (by omega); rw [kx_kn_at (by omega)] at this; exact this
      refine kx_two (by decide) (Nat.le_of_ble_eq_true rfl) (by decide) (Nat.le_of_ble_eq_true rfl) ?_
      refine kx_st 0 (pc' := 0) (L' := [some (.ref 0), some (.int (nI k)), none, none, none]) (st' := []) (h' := kv_wd g w) rfl ?_
      refine kx_st 2 (pc' := 2) (L' := [some (.ref 0), some (.int (nI k)), none, none, none]) (st' := [.int (nI k), .ref 0]) (h' := kv_wd g w) rfl ?_
      refine kx_call (z := 127) (as := [.ref 0, .int (nI k)]) (rest := []) (v := some (.ref (56 + 2 * k))) (h1 := kv_wd g w) rfl (ev_sheetAt (d := 898) q k hk4) ?_
      refine kx_st 0 (pc' := 5) (L' := [some (.ref 0), some (.int (nI k)), none, none, none]) (st' := [.ref (56 + 2 * k)]) (h' := kv_wd g w) rfl ?_
      refine kx_st 2 (pc' := 7) (L' := [some (.ref 0), some (.int (nI k)), some (.ref (56 + 2 * k)), none, none]) (st' := [.ref (56 + 2 * k)]) (h' := kv_wd g w) rfl ?_
      refine kx_st 1 (pc' := 16) (L' := [some (.ref 0), some (.int (nI k)), some (.ref (56 + 2 * k)), none, none]) (st' := []) (h' := kv_wd g w) rfl ?_
      refine kx_st 1 (pc' := 17) (L' := [some (.ref 0), some (.int (nI k)), some (.ref (56 + 2 * k)), none, none]) (st' := [.ref (56 + 2 * k)]) (h' := kv_wd g w) rfl ?_
      refine kx_gf (i := 254) (k := 0) (v := .int (g (56 + 2 * k) 0)) rfl rfl (by have := (kv_st_h hk4).1; omega) ((kv_st_h hk4).2.1 _ _) rfl ?_
      refine kx_bc (t := 29) rfl rfl (fun (h20 : ¬ g (56 + 2 * k) 0 = 0) => ?_) (fun (h20 : ¬ (¬ g (56 + 2 * k) 0 = 0)) => ?_)
      · refine kx_st 1 (pc' := 30) (L' := [some (.ref 0), some (.int (nI k)), some (.ref (56 + 2 * k)), none, none]) (st' := [.ref (56 + 2 * k)]) (h' := kv_wd g w) rfl ?_
        refine kx_gf (i := 257) (k := 1) (v := .int (g (56 + 2 * k) 1)) rfl rfl (by have := (kv_st_h hk4).1; omega) ((kv_st_h hk4).2.1 _ _) rfl ?_
        refine kx_st 7 (pc' := 47) (L' := [some (.ref 0), some (.int (nI k)), some (.ref (56 + 2 * k)), some (.int (if g 1 4 < g (56 + 2 * k) 1 then g 1 4 else g (56 + 2 * k) 1)), some (.int 0)]) (st' := []) (h' := kv_wd g w) rfl ?_
        rw [s2, n2, d1, kx_mn (by omega) (by omega)]
        refine lp_xjudge (E := E) (d := 899) (g := g) (w := w) q k hk4 n m e (s2.trans n2) n40 d1 a4 he (fun j hj => by rw [s4 j (by omega), f4 j (by omega)]; exact hp j hj) (Classical.or_iff_not_imp_left.mpr (fun hem => by rw [s4 e (by omega), f4 e (by omega)]; exact hx.resolve_left hem)) ?_ e 0 (by omega)
        refine ⟨_, _, _, rfl, rfl, ?_⟩
        refine kx_st 0 (pc' := 0) (L' := [some (.ref 65), some (.int (nI k)), none]) (st' := []) (h' := kv_wd g w) rfl ?_
        refine kx_st 1 (pc' := 1) (L' := [some (.ref 65), some (.int (nI k)), none]) (st' := [.int (nI k)]) (h' := kv_wd g w) rfl ?_
        refine kx_call (z := 200) (as := [.int (nI k)]) (rest := []) (v := some (.int (kx_b (0 ≤ nI k ∧ nI k ≤ 3)))) (h1 := kv_wd g w) rfl (ev_isSheet (d := 897) (nI k)) ?_
        refine kx_st 0 (pc' := 4) (L' := [some (.ref 65), some (.int (nI k)), none]) (st' := [.int (kx_b (0 ≤ nI k ∧ nI k ≤ 3))]) (h' := kv_wd g w) rfl ?_
        refine kx_bn (t := 14) rfl rfl (fun (m4 : (0 ≤ nI k ∧ nI k ≤ 3)) => ?_) (fun (m4 : ¬ (0 ≤ nI k ∧ nI k ≤ 3)) => ?_)
        · refine kx_st 3 (pc' := 19) (L' := [some (.ref 65), some (.int (nI k)), none]) (st' := [.int (nI k), .ref 71]) (h' := kv_wd g w) rfl ?_
          refine kx_ia (k := k) rfl rfl (by decide) rfl (by omega) (by decide) ?_
          refine kx_bc (t := 30) rfl rfl (fun (m20 : ¬ g 71 k = 0) => ?_) (fun (m20 : ¬ (¬ g 71 k = 0)) => ?_)
          · refine kx_st 2 (pc' := 32) (L' := [some (.ref 65), some (.int (nI k)), some (.int 0)]) (st' := []) (h' := kv_wd g w) rfl ?_
            exact lp_mjudge (E := E) (d := 898) (g := g) (w := w) k hk4 n m e n2 n40 d2 a4 he hp hx ⟨rfl, _, _, rfl, kx_Rl_skip lr g w i hR⟩ e 0 (by omega)
          · exact absurd (Classical.not_not.mp m20) hb
        · exact absurd hv m4
      · exact absurd (s1.symm.trans (Classical.not_not.mp h20)) hb
  · refine kx_two (by decide) (Nat.le_of_ble_eq_true rfl) (by decide) (Nat.le_of_ble_eq_true rfl) ?_
    refine kx_st 0 (pc' := 0) (L' := [some (.ref 0), some (.int a), none, none, none]) (st' := []) (h' := kv_wd g w) rfl ?_
    refine kx_st 2 (pc' := 2) (L' := [some (.ref 0), some (.int a), none, none, none]) (st' := [.int a, .ref 0]) (h' := kv_wd g w) rfl ?_
    refine kx_call (z := 127) (as := [.ref 0, .int a]) (rest := []) (v := some (.null)) (h1 := kv_wd g w) rfl (ev_sheetAt_n (d := 898) a hv) ?_
    refine kx_st 0 (pc' := 5) (L' := [some (.ref 0), some (.int a), none, none, none]) (st' := [.null]) (h' := kv_wd g w) rfl ?_
    refine kx_st 2 (pc' := 7) (L' := [some (.ref 0), some (.int a), some (.null), none, none]) (st' := [.null]) (h' := kv_wd g w) rfl ?_
    refine kx_st 1 (pc' := 10) (L' := [some (.ref 0), some (.int a), some (.null), none, none]) (st' := []) (h' := kv_wd g w) rfl ?_
    refine kx_st 2 (pc' := 12) (L' := [some (.ref 0), some (.int a), some (.null), none, none]) (st' := [.int 1, .ref 0]) (h' := kv_wd g w) rfl ?_
    refine kx_call (z := 123) (as := [.ref 0, .int 1]) (rest := []) (v := some (.int (-1000000000 - nI 1))) (h1 := kv_wd (kv_up g 64 1 (g 64 1 + 1)) w) rfl (ev_error (d := 898) 1 (by decide) (by decide)) ?_
    refine kx_st 0 (pc' := 15) (L' := [some (.ref 0), some (.int a), some (.null), none, none]) (st' := [.int (-1000000000 - nI 1)]) (h' := kv_wd (kv_up g 64 1 (g 64 1 + 1)) w) rfl ?_
    refine kx_ret (v := some (.int (-1000000000 - nI 1))) rfl ?_
    refine ⟨_, _, _, rfl, rfl, ?_⟩
    refine kx_st 0 (pc' := 0) (L' := [some (.ref 65), some (.int a), none]) (st' := []) (h' := kv_wd (kv_up g 64 1 (g 64 1 + 1)) w) rfl ?_
    refine kx_st 1 (pc' := 1) (L' := [some (.ref 65), some (.int a), none]) (st' := [.int a]) (h' := kv_wd (kv_up g 64 1 (g 64 1 + 1)) w) rfl ?_
    refine kx_call (z := 200) (as := [.int a]) (rest := []) (v := some (.int (kx_b (0 ≤ a ∧ a ≤ 3)))) (h1 := kv_wd (kv_up g 64 1 (g 64 1 + 1)) w) rfl (ev_isSheet (d := 897) a) ?_
    refine kx_st 0 (pc' := 4) (L' := [some (.ref 65), some (.int a), none]) (st' := [.int (kx_b (0 ≤ a ∧ a ≤ 3))]) (h' := kv_wd (kv_up g 64 1 (g 64 1 + 1)) w) rfl ?_
    refine kx_bn (t := 14) rfl rfl (fun (m4 : (0 ≤ a ∧ a ≤ 3)) => ?_) (fun (m4 : ¬ (0 ≤ a ∧ a ≤ 3)) => ?_)
    · exact absurd m4 hv
    · refine kx_st 0 (pc' := 7) (L' := [some (.ref 65), some (.int a), none]) (st' := []) (h' := kv_wd (kv_up g 64 1 (g 64 1 + 1)) w) rfl ?_
      refine kx_st 2 (pc' := 10) (L' := [some (.ref 65), some (.int a), none]) (st' := [.int (-1000000001), .ref 65]) (h' := kv_wd (kv_up g 64 1 (g 64 1 + 1)) w) rfl ?_
      refine kx_call (z := 131) (as := [.ref 65, .int (-1000000001)]) (rest := []) (v := some (.int (-1000000001))) (h1 := kv_wd (kv_up (kv_up g 64 1 (g 64 1 + 1)) 70 1 ((kv_up g 64 1 (g 64 1 + 1)) 70 1 + 1)) w) rfl (ev_errs (d := 898) (-1000000001) 1 (by decide) (by decide)) ?_
      refine kx_st 0 (pc' := 13) (L' := [some (.ref 65), some (.int a), none]) (st' := [.int (-1000000001)]) (h' := kv_wd (kv_up (kv_up g 64 1 (g 64 1 + 1)) 70 1 ((kv_up g 64 1 (g 64 1 + 1)) 70 1 + 1)) w) rfl ?_
      refine kx_ret (v := some (.int (-1000000001))) rfl ?_
      exact ⟨rfl, _, _, rfl, kx_Rl_e hR⟩
end KP10b
