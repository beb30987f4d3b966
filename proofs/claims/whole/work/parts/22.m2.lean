/-! LEAVES of the class: error, house, hands -/
def kv_kn (a : Nat) : Prop := a < 76 ∧ ∀ (r : Nat → Int32) (w : kv_W), kv_cr a r w = .inr (2, [.int (r 0), .int (r 1), .int (r 2), .int (r 3), .int (r 4), .int (r 5), .int (r 6), .int (r 7), .int (r 8)])
theorem kv_kn_h {j : Nat} (h : j < 8) : kv_kn (14 + j) := by
  rcases (show j = 0 ∨ j = 1 ∨ j = 2 ∨ j = 3 ∨ j = 4 ∨ j = 5 ∨ j = 6 ∨ j = 7 by omega) with rfl | rfl | rfl | rfl | rfl | rfl | rfl | rfl <;> exact ⟨by decide, fun _ _ => rfl⟩
theorem kv_kn_k {j : Nat} (h : j < 8) : kv_kn (35 + j) := by
  rcases (show j = 0 ∨ j = 1 ∨ j = 2 ∨ j = 3 ∨ j = 4 ∨ j = 5 ∨ j = 6 ∨ j = 7 by omega) with rfl | rfl | rfl | rfl | rfl | rfl | rfl | rfl <;> exact ⟨by decide, fun _ _ => rfl⟩
def kv_hd (a : Nat) : Prop := a < 76 ∧ (∀ (r : Nat → Int32) (w : kv_W), kv_cr a r w = .inr (0, [.ref (a + 1), .ref (a + 2), .int (r 2)])) ∧ kv_an0 (a + 1) = some 6 ∧ kv_an0 (a + 2) = some 6 ∧ a + 2 < 76
theorem kv_hd2 : kv_hd 2 := ⟨by decide, fun _ _ => rfl, rfl, rfl, by decide⟩
theorem kv_hd23 : kv_hd 23 := ⟨by decide, fun _ _ => rfl, rfl, rfl, by decide⟩
theorem kv_hd44 : kv_hd 44 := ⟨by decide, fun _ _ => rfl, rfl, rfl, by decide⟩
theorem kx_al {E : kv_V} {d y pc : Nat} {L : kv_L} {st : List Value} {P : Option Value → kv_H → Prop} {g : kv_S} {w : kv_W} {a n : Nat} (hat : kv_at y pc = some (.arraylength, 1)) (ha : kv_an0 a = some n) (h75 : a < 76) (kk : kx_V E d y (pc + 1) L (.int (nI n) :: st) (kv_wd g w) P) : kx_V E d y pc L (.ref a :: st) (kv_wd g w) P := by
  refine kx_s1 (pc' := pc + 1) (L' := L) (st' := .int (nI n) :: st) (h' := kv_wd g w) ?_ kk
  have h1 : kv_len E (kv_wd g w) a = some (.int (nI n)) := by
    simp only [kv_len, kv_wd_get h75, kv_an0_s ha h75]
    rfl
  simp only [kx_1, hat, kv_cl1, kv_re, kv_op, h1, kv_psh]
theorem kx_aE {E : kv_V} {d y pc : Nat} {L : kv_L} {st : List Value} {P : Option Value → kv_H → Prop} {g : kv_S} {w : kv_W} {a n t : Nat} {f : Nat → Int32} (hat : kv_at y pc = some (.arraylength, 1)) (ha : E a = some (t, n, f)) (h75 : 76 ≤ a) (kk : kx_V E d y (pc + 1) L (.int (nI n) :: st) (kv_wd g w) P) : kx_V E d y pc L (.ref a :: st) (kv_wd g w) P := by
  refine kx_s1 (pc' := pc + 1) (L' := L) (st' := .int (nI n) :: st) (h' := kv_wd g w) ?_ kk
  have hnone : (kv_wd g w)[a]? = none := List.getElem?_eq_none (show (kv_wd g w).length ≤ a from h75)
  have h1 : kv_len E (kv_wd g w) a = some (.int (nI n)) := by
    simp only [kv_len, hnone, ha]
    rfl
  simp only [kx_1, hat, kv_cl1, kv_re, kv_op, h1, kv_psh]
theorem kx_cp {E : kv_V} {d y pc : Nat} {L : kv_L} {st : List Value} {P : Option Value → kv_H → Prop} {g : kv_S} {w : kv_W} {i a a0 n0 n1 sp dp n pp : Nat} {isp idp isn : Int32} (hat : kv_at y pc = some (.invokestatic i, 3)) (hac : kv_lk kv_ac (kv_o y) i = some pp) (hml : kv_lk kv_ml (kv_o y) i = none) (hmm : kv_lk kv_mm (kv_o y) i = none) (h0 : kv_an0 a0 = some n0) (h1 : kv_an0 a = some n1) (l0 : a0 < 76) (l1 : a < 76) (e1 : isp = nI sp) (e2 : idp = nI dp) (e3 : isn = nI n) (hs : sp + n ≤ n0) (hd : dp + n ≤ n1) (hn0 : n0 < 2 ^ 31) (hn1 : n1 < 2 ^ 31) (hc : (st.map fun v => v.category).sum ≤ 8) (kk : kx_V E d y (pc + 3) L st (kv_wd (kv_uf g a (va_cpy (g a0) (g a) sp dp n)) w) P) : kx_V E d y pc L (.int isn :: .int idp :: .ref a :: .int isp :: .ref a0 :: st) (kv_wd g w) P := by
  refine kx_s1 (pc' := pc + 3) (L' := L) (st' := st) (h' := kv_wd (kv_uf g a (va_cpy (g a0) (g a) sp dp n)) w) ?_ kk
  subst e1; subst e2; subst e3
  simp only [kx_1, hat, kv_cl1, hml, kv_re, kv_op, hmm, kv_hp, hac, kv_wd_get l0, kv_wd_get l1, kv_an0_s h0 l0, kv_an0_s h1 l1]
  rw [nI_clamp (show sp < 2 ^ 31 by omega), nI_clamp (show dp < 2 ^ 31 by omega), nI_clamp (show n < 2 ^ 31 by omega)]
  rw [if_neg (by
    intro q
    rcases q with q | q | q | q | q | q
    · exact nI_pos (by omega) q
    · exact nI_pos (by omega) q
    · exact nI_pos (by omega) q
    · omega
    · omega
    · omega)]
  rw [kv_wd_uf l1 (kv_an0_s h1 l1 _ _)]
set_option maxRecDepth 100000 in
theorem ev_error {E : kv_V} {d : Nat} {g : kv_S} {w : kv_W} (k : Nat) (h1 : 1 ≤ k) (h5 : k ≤ 5) : kv_ev E (d + 1) 123 [.ref 0, .int (nI k)] (kv_wd g w) (some (.int (-1000000000 - nI k))) (kv_wd (kv_up g 64 k (g 64 k + 1)) w) := by
  refine kx_ev (d := d + 0) (by decide) (Nat.le_of_ble_eq_true rfl) ?_
  refine kx_st 0 (pc' := 0) (L' := [some (.ref 0), some (.int (nI k))]) (st' := []) (h' := kv_wd g w) rfl ?_
  refine kx_st 2 (pc' := 2) (L' := [some (.ref 0), some (.int (nI k))]) (st' := [.int 1, .int (nI k)]) (h' := kv_wd g w) rfl ?_
  refine kx_bi (t := 20) rfl rfl (fun (h2 : nI k < 1) => ?_) (fun (h2 : ¬ (nI k < 1)) => ?_)
  · exact absurd h2 (nI_nlt (a := k) (b := 1) (by omega) (by omega))
  · refine kx_st 0 (pc' := 5) (L' := [some (.ref 0), some (.int (nI k))]) (st' := []) (h' := kv_wd g w) rfl ?_
    refine kx_st 2 (pc' := 7) (L' := [some (.ref 0), some (.int (nI k))]) (st' := [.int 5, .int (nI k)]) (h' := kv_wd g w) rfl ?_
    refine kx_bi (t := 20) rfl rfl (fun (h7 : 5 < nI k) => ?_) (fun (h7 : ¬ (5 < nI k)) => ?_)
    · exact absurd h7 (nI_nlt (a := 5) (b := k) (by omega) (by omega))
    · refine kx_st 0 (pc' := 10) (L' := [some (.ref 0), some (.int (nI k))]) (st' := []) (h' := kv_wd g w) rfl ?_
      refine kx_st 4 (pc' := 16) (L' := [some (.ref 0), some (.int (nI k))]) (st' := [.int (nI k), .ref 64, .int (nI k), .ref 64]) (h' := kv_wd g w) rfl ?_
      refine kx_ia (k := k) rfl rfl (by decide) rfl (by omega) (by decide) ?_
      refine kx_st 2 (pc' := 19) (L' := [some (.ref 0), some (.int (nI k))]) (st' := [.int ((g 64 k) + 1), .int (nI k), .ref 64]) (h' := kv_wd g w) rfl ?_
      refine kx_is (k := k) rfl rfl (by decide) rfl (by omega) (by decide) ?_
      refine kx_st 3 (pc' := 25) (L' := [some (.ref 0), some (.int (nI k))]) (st' := [.int ((-1000000000) - (nI k))]) (h' := kv_wd (kv_up g 64 k ((g 64 k) + 1)) w) rfl ?_
      refine kx_ret (v := some (.int ((-1000000000) - (nI k)))) rfl ?_
      exact ⟨rfl, rfl⟩
set_option maxRecDepth 100000 in
theorem ev_isPerson {E : kv_V} {d : Nat} {g : kv_S} {w : kv_W} (p : Int32) : kv_ev E (d + 1) 11 [.ref 1, .int p] (kv_wd g w) (some (.int (kx_b (0 ≤ p ∧ p < g 1 0)))) (kv_wd g w) := by
  refine kx_ev (d := d + 0) (by decide) (Nat.le_of_ble_eq_true rfl) ?_
  refine kx_st 0 (pc' := 0) (L' := [some (.ref 1), some (.int p)]) (st' := []) (h' := kv_wd g w) rfl ?_
  refine kx_st 1 (pc' := 1) (L' := [some (.ref 1), some (.int p)]) (st' := [.int p]) (h' := kv_wd g w) rfl ?_
  refine kx_bc (t := 16) rfl rfl (fun (h1 : p < 0) => ?_) (fun (h1 : ¬ (p < 0)) => ?_)
  · refine kx_st 1 (pc' := 17) (L' := [some (.ref 1), some (.int p)]) (st' := [.int 0]) (h' := kv_wd g w) rfl ?_
    refine kx_ret (v := some (.int 0)) rfl ?_
    exact ⟨kx_l0 (by simp only [Int32.lt_iff_toInt_lt, Int32.le_iff_toInt_le] at *; omega), rfl⟩
  · refine kx_st 0 (pc' := 4) (L' := [some (.ref 1), some (.int p)]) (st' := []) (h' := kv_wd g w) rfl ?_
    refine kx_st 3 (pc' := 9) (L' := [some (.ref 1), some (.int p)]) (st' := [.int (g 1 0), .int p]) (h' := kv_wd g w) rfl ?_
    refine kx_bi (t := 16) rfl rfl (fun (h9 : g 1 0 ≤ p) => ?_) (fun (h9 : ¬ (g 1 0 ≤ p)) => ?_)
    · refine kx_st 1 (pc' := 17) (L' := [some (.ref 1), some (.int p)]) (st' := [.int 0]) (h' := kv_wd g w) rfl ?_
      refine kx_ret (v := some (.int 0)) rfl ?_
      exact ⟨kx_l0 (by simp only [Int32.lt_iff_toInt_lt, Int32.le_iff_toInt_le] at *; omega), rfl⟩
    · refine kx_st 0 (pc' := 12) (L' := [some (.ref 1), some (.int p)]) (st' := []) (h' := kv_wd g w) rfl ?_
      refine kx_st 2 (pc' := 17) (L' := [some (.ref 1), some (.int p)]) (st' := [.int 1]) (h' := kv_wd g w) rfl ?_
      refine kx_ret (v := some (.int 1)) rfl ?_
      exact ⟨kx_l1 (by simp only [Int32.lt_iff_toInt_lt, Int32.le_iff_toInt_le] at *; omega), rfl⟩
set_option maxRecDepth 100000 in
theorem ev_isPair {E : kv_V} {d : Nat} {g : kv_S} {w : kv_W} (p : Int32) : kv_ev E (d + 2) 12 [.ref 1, .int p] (kv_wd g w) (some (.int (kx_b (0 ≤ p ∧ (0 ≤ p / 10 ∧ p / 10 < g 1 0) ∧ (0 ≤ p % 10 ∧ p % 10 < g 1 0) ∧ ¬ p / 10 = p % 10)))) (kv_wd g w) := by
  refine kx_ev (d := d + 1) (by decide) (Nat.le_of_ble_eq_true rfl) ?_
  refine kx_st 0 (pc' := 0) (L' := [some (.ref 1), some (.int p)]) (st' := []) (h' := kv_wd g w) rfl ?_
  refine kx_st 1 (pc' := 1) (L' := [some (.ref 1), some (.int p)]) (st' := [.int p]) (h' := kv_wd g w) rfl ?_
  refine kx_bc (t := 41) rfl rfl (fun (h1 : p < 0) => ?_) (fun (h1 : ¬ (p < 0)) => ?_)
  · refine kx_st 1 (pc' := 42) (L' := [some (.ref 1), some (.int p)]) (st' := [.int 0]) (h' := kv_wd g w) rfl ?_
    refine kx_ret (v := some (.int 0)) rfl ?_
    exact ⟨kx_l0 (by (try simp only [Int32.not_lt, Int32.not_le, Classical.not_not] at *); grind), rfl⟩
  · refine kx_st 0 (pc' := 4) (L' := [some (.ref 1), some (.int p)]) (st' := []) (h' := kv_wd g w) rfl ?_
    refine kx_st 3 (pc' := 8) (L' := [some (.ref 1), some (.int p)]) (st' := [.int 10, .int p, .ref 1]) (h' := kv_wd g w) rfl ?_
    refine kx_dv rfl (by decide) ?_
    refine kx_call (z := 11) (as := [.ref 1, .int (p / 10)]) (rest := []) (v := some (.int (kx_b (0 ≤ p / 10 ∧ p / 10 < g 1 0)))) (h1 := kv_wd g w) rfl (ev_isPerson (d := d) (p / 10)) ?_
    refine kx_st 0 (pc' := 12) (L' := [some (.ref 1), some (.int p)]) (st' := [.int (kx_b (0 ≤ p / 10 ∧ p / 10 < g 1 0))]) (h' := kv_wd g w) rfl ?_
    refine kx_be (t := 41) rfl rfl (fun (h12 : ¬ (0 ≤ p / 10 ∧ p / 10 < g 1 0)) => ?_) (fun (h12 : (0 ≤ p / 10 ∧ p / 10 < g 1 0)) => ?_)
    · refine kx_st 1 (pc' := 42) (L' := [some (.ref 1), some (.int p)]) (st' := [.int 0]) (h' := kv_wd g w) rfl ?_
      refine kx_ret (v := some (.int 0)) rfl ?_
      exact ⟨kx_l0 (by (try simp only [Int32.not_lt, Int32.not_le, Classical.not_not] at *); grind), rfl⟩
    · refine kx_st 0 (pc' := 15) (L' := [some (.ref 1), some (.int p)]) (st' := []) (h' := kv_wd g w) rfl ?_
      refine kx_st 3 (pc' := 19) (L' := [some (.ref 1), some (.int p)]) (st' := [.int 10, .int p, .ref 1]) (h' := kv_wd g w) rfl ?_
      refine kx_rm rfl (by decide) ?_
      refine kx_call (z := 11) (as := [.ref 1, .int (p % 10)]) (rest := []) (v := some (.int (kx_b (0 ≤ p % 10 ∧ p % 10 < g 1 0)))) (h1 := kv_wd g w) rfl (ev_isPerson (d := d) (p % 10)) ?_
      refine kx_st 0 (pc' := 23) (L' := [some (.ref 1), some (.int p)]) (st' := [.int (kx_b (0 ≤ p % 10 ∧ p % 10 < g 1 0))]) (h' := kv_wd g w) rfl ?_
      refine kx_be (t := 41) rfl rfl (fun (h23 : ¬ (0 ≤ p % 10 ∧ p % 10 < g 1 0)) => ?_) (fun (h23 : (0 ≤ p % 10 ∧ p % 10 < g 1 0)) => ?_)
      · refine kx_st 1 (pc' := 42) (L' := [some (.ref 1), some (.int p)]) (st' := [.int 0]) (h' := kv_wd g w) rfl ?_
        refine kx_ret (v := some (.int 0)) rfl ?_
        exact ⟨kx_l0 (by (try simp only [Int32.not_lt, Int32.not_le, Classical.not_not] at *); grind), rfl⟩
      · refine kx_st 0 (pc' := 26) (L' := [some (.ref 1), some (.int p)]) (st' := []) (h' := kv_wd g w) rfl ?_
        refine kx_st 2 (pc' := 29) (L' := [some (.ref 1), some (.int p)]) (st' := [.int 10, .int p]) (h' := kv_wd g w) rfl ?_
        refine kx_dv rfl (by decide) ?_
        refine kx_st 2 (pc' := 33) (L' := [some (.ref 1), some (.int p)]) (st' := [.int 10, .int p, .int (p / 10)]) (h' := kv_wd g w) rfl ?_
        refine kx_rm rfl (by decide) ?_
        refine kx_bi (t := 41) rfl rfl (fun (h34 : p / 10 = p % 10) => ?_) (fun (h34 : ¬ (p / 10 = p % 10)) => ?_)
        · refine kx_st 1 (pc' := 42) (L' := [some (.ref 1), some (.int p)]) (st' := [.int 0]) (h' := kv_wd g w) rfl ?_
          refine kx_ret (v := some (.int 0)) rfl ?_
          exact ⟨kx_l0 (by (try simp only [Int32.not_lt, Int32.not_le, Classical.not_not] at *); grind), rfl⟩
        · refine kx_st 0 (pc' := 37) (L' := [some (.ref 1), some (.int p)]) (st' := []) (h' := kv_wd g w) rfl ?_
          refine kx_st 2 (pc' := 42) (L' := [some (.ref 1), some (.int p)]) (st' := [.int 1]) (h' := kv_wd g w) rfl ?_
          refine kx_ret (v := some (.int 1)) rfl ?_
          exact ⟨kx_l1 (by (try simp only [Int32.not_lt, Int32.not_le, Classical.not_not] at *); grind), rfl⟩
set_option maxRecDepth 100000 in
theorem ev_isThere {E : kv_V} {d : Nat} {g : kv_S} {w : kv_W} (p : Int32) : kv_ev E (d + 2) 13 [.ref 1, .int p] (kv_wd g w) (some (.int (kx_b ((0 ≤ p ∧ p < g 1 0) ∧ ((g 1 1 >>> (p &&& 31)) &&& 1) = 1)))) (kv_wd g w) := by
  refine kx_ev (d := d + 1) (by decide) (Nat.le_of_ble_eq_true rfl) ?_
  refine kx_st 0 (pc' := 0) (L' := [some (.ref 1), some (.int p)]) (st' := []) (h' := kv_wd g w) rfl ?_
  refine kx_st 2 (pc' := 2) (L' := [some (.ref 1), some (.int p)]) (st' := [.int p, .ref 1]) (h' := kv_wd g w) rfl ?_
  refine kx_call (z := 11) (as := [.ref 1, .int p]) (rest := []) (v := some (.int (kx_b (0 ≤ p ∧ p < g 1 0)))) (h1 := kv_wd g w) rfl (ev_isPerson (d := d) p) ?_
  refine kx_st 0 (pc' := 5) (L' := [some (.ref 1), some (.int p)]) (st' := [.int (kx_b (0 ≤ p ∧ p < g 1 0))]) (h' := kv_wd g w) rfl ?_
  refine kx_be (t := 24) rfl rfl (fun (h5 : ¬ (0 ≤ p ∧ p < g 1 0)) => ?_) (fun (h5 : (0 ≤ p ∧ p < g 1 0)) => ?_)
  · refine kx_st 1 (pc' := 25) (L' := [some (.ref 1), some (.int p)]) (st' := [.int 0]) (h' := kv_wd g w) rfl ?_
    refine kx_ret (v := some (.int 0)) rfl ?_
    exact ⟨kx_l0 (by (try simp only [Int32.not_lt, Int32.not_le, Classical.not_not] at *); grind), rfl⟩
  · refine kx_st 0 (pc' := 8) (L' := [some (.ref 1), some (.int p)]) (st' := []) (h' := kv_wd g w) rfl ?_
    refine kx_st 7 (pc' := 17) (L' := [some (.ref 1), some (.int p)]) (st' := [.int 1, .int (((g 1 1) >>> (p &&& 31)) &&& 1)]) (h' := kv_wd g w) rfl ?_
    refine kx_bi (t := 24) rfl rfl (fun (h17 : ¬ ((g 1 1) >>> (p &&& 31)) &&& 1 = 1) => ?_) (fun (h17 : ¬ (¬ ((g 1 1) >>> (p &&& 31)) &&& 1 = 1)) => ?_)
    · refine kx_st 1 (pc' := 25) (L' := [some (.ref 1), some (.int p)]) (st' := [.int 0]) (h' := kv_wd g w) rfl ?_
      refine kx_ret (v := some (.int 0)) rfl ?_
      exact ⟨kx_l0 (by (try simp only [Int32.not_lt, Int32.not_le, Classical.not_not] at *); grind), rfl⟩
    · refine kx_st 0 (pc' := 20) (L' := [some (.ref 1), some (.int p)]) (st' := []) (h' := kv_wd g w) rfl ?_
      refine kx_st 2 (pc' := 25) (L' := [some (.ref 1), some (.int p)]) (st' := [.int 1]) (h' := kv_wd g w) rfl ?_
      refine kx_ret (v := some (.int 1)) rfl ?_
      exact ⟨kx_l1 (by (try simp only [Int32.not_lt, Int32.not_le, Classical.not_not] at *); grind), rfl⟩
set_option maxRecDepth 100000 in
theorem ev_areThere {E : kv_V} {d : Nat} {g : kv_S} {w : kv_W} (p q : Int32) : kv_ev E (d + 3) 14 [.ref 1, .int p, .int q] (kv_wd g w) (some (.int (kx_b (((0 ≤ p ∧ p < g 1 0) ∧ ((g 1 1 >>> (p &&& 31)) &&& 1) = 1) ∧ ((0 ≤ q ∧ q < g 1 0) ∧ ((g 1 1 >>> (q &&& 31)) &&& 1) = 1))))) (kv_wd g w) := by
  refine kx_ev (d := d + 2) (by decide) (Nat.le_of_ble_eq_true rfl) ?_
  refine kx_st 0 (pc' := 0) (L' := [some (.ref 1), some (.int p), some (.int q)]) (st' := []) (h' := kv_wd g w) rfl ?_
  refine kx_st 2 (pc' := 2) (L' := [some (.ref 1), some (.int p), some (.int q)]) (st' := [.int p, .ref 1]) (h' := kv_wd g w) rfl ?_
  refine kx_call (z := 13) (as := [.ref 1, .int p]) (rest := []) (v := some (.int (kx_b ((0 ≤ p ∧ p < g 1 0) ∧ ((g 1 1 >>> (p &&& 31)) &&& 1) = 1)))) (h1 := kv_wd g w) rfl (ev_isThere (d := d) p) ?_
  refine kx_st 0 (pc' := 5) (L' := [some (.ref 1), some (.int p), some (.int q)]) (st' := [.int (kx_b ((0 ≤ p ∧ p < g 1 0) ∧ ((g 1 1 >>> (p &&& 31)) &&& 1) = 1))]) (h' := kv_wd g w) rfl ?_
  refine kx_be (t := 20) rfl rfl (fun (h5 : ¬ ((0 ≤ p ∧ p < g 1 0) ∧ ((g 1 1 >>> (p &&& 31)) &&& 1) = 1)) => ?_) (fun (h5 : ((0 ≤ p ∧ p < g 1 0) ∧ ((g 1 1 >>> (p &&& 31)) &&& 1) = 1)) => ?_)
  · refine kx_st 1 (pc' := 21) (L' := [some (.ref 1), some (.int p), some (.int q)]) (st' := [.int 0]) (h' := kv_wd g w) rfl ?_
    refine kx_ret (v := some (.int 0)) rfl ?_
    exact ⟨kx_l0 (by (try simp only [Int32.not_lt, Int32.not_le, Classical.not_not] at *); grind), rfl⟩
  · refine kx_st 0 (pc' := 8) (L' := [some (.ref 1), some (.int p), some (.int q)]) (st' := []) (h' := kv_wd g w) rfl ?_
    refine kx_st 2 (pc' := 10) (L' := [some (.ref 1), some (.int p), some (.int q)]) (st' := [.int q, .ref 1]) (h' := kv_wd g w) rfl ?_
    refine kx_call (z := 13) (as := [.ref 1, .int q]) (rest := []) (v := some (.int (kx_b ((0 ≤ q ∧ q < g 1 0) ∧ ((g 1 1 >>> (q &&& 31)) &&& 1) = 1)))) (h1 := kv_wd g w) rfl (ev_isThere (d := d) q) ?_
    refine kx_st 0 (pc' := 13) (L' := [some (.ref 1), some (.int p), some (.int q)]) (st' := [.int (kx_b ((0 ≤ q ∧ q < g 1 0) ∧ ((g 1 1 >>> (q &&& 31)) &&& 1) = 1))]) (h' := kv_wd g w) rfl ?_
    refine kx_be (t := 20) rfl rfl (fun (h13 : ¬ ((0 ≤ q ∧ q < g 1 0) ∧ ((g 1 1 >>> (q &&& 31)) &&& 1) = 1)) => ?_) (fun (h13 : ((0 ≤ q ∧ q < g 1 0) ∧ ((g 1 1 >>> (q &&& 31)) &&& 1) = 1)) => ?_)
    · refine kx_st 1 (pc' := 21) (L' := [some (.ref 1), some (.int p), some (.int q)]) (st' := [.int 0]) (h' := kv_wd g w) rfl ?_
      refine kx_ret (v := some (.int 0)) rfl ?_
      exact ⟨kx_l0 (by (try simp only [Int32.not_lt, Int32.not_le, Classical.not_not] at *); grind), rfl⟩
    · refine kx_st 0 (pc' := 16) (L' := [some (.ref 1), some (.int p), some (.int q)]) (st' := []) (h' := kv_wd g w) rfl ?_
      refine kx_st 2 (pc' := 21) (L' := [some (.ref 1), some (.int p), some (.int q)]) (st' := [.int 1]) (h' := kv_wd g w) rfl ?_
      refine kx_ret (v := some (.int 1)) rfl ?_
      exact ⟨kx_l1 (by (try simp only [Int32.not_lt, Int32.not_le, Classical.not_not] at *); grind), rfl⟩
set_option maxRecDepth 100000 in
theorem ev_handOf {E : kv_V} {d : Nat} {g : kv_S} {w : kv_W} {a : Nat} (ha : kv_hd a) (k : Nat) (hk : k < 6) (c : Int32) : kv_ev E (d + 1) 2 [.ref a, .int (nI k), .int c] (kv_wd g w) (some (.int (if c = 0 then g (a + 1) k else g (a + 2) k))) (kv_wd g w) := by
  refine kx_ev (d := d + 0) (by decide) (Nat.le_of_ble_eq_true rfl) ?_
  refine kx_st 0 (pc' := 0) (L' := [some (.ref a), some (.int (nI k)), some (.int c)]) (st' := []) (h' := kv_wd g w) rfl ?_
  refine kx_st 1 (pc' := 1) (L' := [some (.ref a), some (.int (nI k)), some (.int c)]) (st' := [.int (nI k)]) (h' := kv_wd g w) rfl ?_
  refine kx_bc (t := 13) rfl rfl (fun (h1 : nI k < 0) => ?_) (fun (h1 : ¬ (nI k < 0)) => ?_)
  · exact absurd h1 (nI_pos (by omega))
  · refine kx_st 0 (pc' := 4) (L' := [some (.ref a), some (.int (nI k)), some (.int c)]) (st' := []) (h' := kv_wd g w) rfl ?_
    refine kx_st 2 (pc' := 6) (L' := [some (.ref a), some (.int (nI k)), some (.int c)]) (st' := [.ref a, .int (nI k)]) (h' := kv_wd g w) rfl ?_
    refine kx_gf (i := 9) (k := 0) (v := .ref (a + 1)) rfl rfl ha.1 (ha.2.1 _ _) rfl ?_
    refine kx_al (n := 6) rfl ha.2.2.1 (by have := ha.2.2.2.2; omega) ?_
    refine kx_bi (t := 15) rfl rfl (fun (h10 : nI k < 6) => ?_) (fun (h10 : ¬ (nI k < 6)) => ?_)
    · refine kx_st 1 (pc' := 16) (L' := [some (.ref a), some (.int (nI k)), some (.int c)]) (st' := [.int c]) (h' := kv_wd g w) rfl ?_
      refine kx_bc (t := 28) rfl rfl (fun (h16 : ¬ c = 0) => ?_) (fun (h16 : ¬ (¬ c = 0)) => ?_)
      · refine kx_st 1 (pc' := 29) (L' := [some (.ref a), some (.int (nI k)), some (.int c)]) (st' := [.ref a]) (h' := kv_wd g w) rfl ?_
        refine kx_gf (i := 15) (k := 1) (v := .ref (a + 2)) rfl rfl ha.1 (ha.2.1 _ _) rfl ?_
        refine kx_st 1 (pc' := 33) (L' := [some (.ref a), some (.int (nI k)), some (.int c)]) (st' := [.int (nI k), .ref (a + 2)]) (h' := kv_wd g w) rfl ?_
        refine kx_ia (k := k) rfl ha.2.2.2.1 ha.2.2.2.2 rfl (by omega) (by decide) ?_
        refine kx_ret (v := some (.int (g (a + 2) k))) rfl ?_
        exact ⟨by simp [*], rfl⟩
      · refine kx_st 0 (pc' := 19) (L' := [some (.ref a), some (.int (nI k)), some (.int c)]) (st' := []) (h' := kv_wd g w) rfl ?_
        refine kx_st 1 (pc' := 20) (L' := [some (.ref a), some (.int (nI k)), some (.int c)]) (st' := [.ref a]) (h' := kv_wd g w) rfl ?_
        refine kx_gf (i := 9) (k := 0) (v := .ref (a + 1)) rfl rfl ha.1 (ha.2.1 _ _) rfl ?_
        refine kx_st 1 (pc' := 24) (L' := [some (.ref a), some (.int (nI k)), some (.int c)]) (st' := [.int (nI k), .ref (a + 1)]) (h' := kv_wd g w) rfl ?_
        refine kx_ia (k := k) rfl ha.2.2.1 (by have := ha.2.2.2.2; omega) rfl (by omega) (by decide) ?_
        refine kx_st 1 (pc' := 34) (L' := [some (.ref a), some (.int (nI k)), some (.int c)]) (st' := [.int (g (a + 1) k)]) (h' := kv_wd g w) rfl ?_
        refine kx_ret (v := some (.int (g (a + 1) k))) rfl ?_
        exact ⟨by simp [*], rfl⟩
    · exact absurd (nI_lt (a := k) (b := 6) hk (by decide)) h10
