/-! PAIRS: ofPerson, hand, people -/
set_option maxRecDepth 100000 in
theorem ev_personHas {E : kv_V} {d : Nat} {g : kv_S} {w : kv_W} (k : Nat) (hk : k < 6) (c : Int32) : kv_ev E (d + 3) 16 [.ref 1, .int (nI k), .int c] (kv_wd g w) (some (.int (if c = 2 then kx_b ((0 ≤ nI k ∧ nI k < g 1 0) ∧ ((g 1 1 >>> (nI k &&& 31)) &&& 1) = 1) else if c = 0 then g 3 k else g 4 k))) (kv_wd g w) := by
  refine kx_ev (d := d + 2) (by decide) (Nat.le_of_ble_eq_true rfl) ?_
  refine kx_st 0 (pc' := 0) (L' := [some (.ref 1), some (.int (nI k)), some (.int c)]) (st' := []) (h' := kv_wd g w) rfl ?_
  refine kx_st 2 (pc' := 2) (L' := [some (.ref 1), some (.int (nI k)), some (.int c)]) (st' := [.int 2, .int c]) (h' := kv_wd g w) rfl ?_
  refine kx_bi (t := 19) rfl rfl (fun (h2 : ¬ c = 2) => ?_) (fun (h2 : ¬ (¬ c = 2)) => ?_)
  · refine kx_st 4 (pc' := 25) (L' := [some (.ref 1), some (.int (nI k)), some (.int c)]) (st' := [.int c, .int (nI k), .ref 2]) (h' := kv_wd g w) rfl ?_
    refine kx_call (z := 2) (as := [.ref 2, .int (nI k), .int c]) (rest := []) (v := some (.int (if c = 0 then g (2 + 1) k else g (2 + 2) k))) (h1 := kv_wd g w) rfl (ev_handOf (d := d + 1) kv_hd2 k hk c) ?_
    refine kx_st 0 (pc' := 28) (L' := [some (.ref 1), some (.int (nI k)), some (.int c)]) (st' := [.int (if c = 0 then g (2 + 1) k else g (2 + 2) k)]) (h' := kv_wd g w) rfl ?_
    refine kx_ret (v := some (.int (if c = 0 then g (2 + 1) k else g (2 + 2) k))) rfl ?_
    exact ⟨by rw [if_neg h2], rfl⟩
  · refine kx_st 0 (pc' := 5) (L' := [some (.ref 1), some (.int (nI k)), some (.int c)]) (st' := []) (h' := kv_wd g w) rfl ?_
    refine kx_st 2 (pc' := 7) (L' := [some (.ref 1), some (.int (nI k)), some (.int c)]) (st' := [.int (nI k), .ref 1]) (h' := kv_wd g w) rfl ?_
    refine kx_call (z := 13) (as := [.ref 1, .int (nI k)]) (rest := []) (v := some (.int (kx_b ((0 ≤ nI k ∧ nI k < g 1 0) ∧ ((g 1 1 >>> (nI k &&& 31)) &&& 1) = 1)))) (h1 := kv_wd g w) rfl (ev_isThere (d := d) (nI k)) ?_
    refine kx_st 0 (pc' := 10) (L' := [some (.ref 1), some (.int (nI k)), some (.int c)]) (st' := [.int (kx_b ((0 ≤ nI k ∧ nI k < g 1 0) ∧ ((g 1 1 >>> (nI k &&& 31)) &&& 1) = 1))]) (h' := kv_wd g w) rfl ?_
    refine kx_be (t := 17) rfl rfl (fun (h10 : ¬ ((0 ≤ nI k ∧ nI k < g 1 0) ∧ ((g 1 1 >>> (nI k &&& 31)) &&& 1) = 1)) => ?_) (fun (h10 : ((0 ≤ nI k ∧ nI k < g 1 0) ∧ ((g 1 1 >>> (nI k &&& 31)) &&& 1) = 1)) => ?_)
    · refine kx_st 1 (pc' := 18) (L' := [some (.ref 1), some (.int (nI k)), some (.int c)]) (st' := [.int 0]) (h' := kv_wd g w) rfl ?_
      refine kx_ret (v := some (.int 0)) rfl ?_
      exact ⟨by rw [if_pos (Classical.not_not.mp h2), kx_b_neg h10], rfl⟩
    · refine kx_st 0 (pc' := 13) (L' := [some (.ref 1), some (.int (nI k)), some (.int c)]) (st' := []) (h' := kv_wd g w) rfl ?_
      refine kx_st 2 (pc' := 18) (L' := [some (.ref 1), some (.int (nI k)), some (.int c)]) (st' := [.int 1]) (h' := kv_wd g w) rfl ?_
      refine kx_ret (v := some (.int 1)) rfl ?_
      exact ⟨by rw [if_pos (Classical.not_not.mp h2), kx_b_pos h10], rfl⟩
set_option maxRecDepth 100000 in
theorem ev_setHand_l {E : kv_V} {d : Nat} {g : kv_S} {w : kv_W} {a : Nat} (ha : kv_hd a) (k : Nat) (hk : k < 6) (v : Int32) : kv_ev E (d + 1) 3 [.ref a, .int (nI k), .int 0, .int v] (kv_wd g w) none (kv_wd (kv_up g (a + 1) k v) w) := by
  refine kx_ev (d := d + 0) (by decide) (Nat.le_of_ble_eq_true rfl) ?_
  refine kx_st 0 (pc' := 0) (L' := [some (.ref a), some (.int (nI k)), some (.int 0), some (.int v)]) (st' := []) (h' := kv_wd g w) rfl ?_
  refine kx_st 1 (pc' := 1) (L' := [some (.ref a), some (.int (nI k)), some (.int 0), some (.int v)]) (st' := [.int (nI k)]) (h' := kv_wd g w) rfl ?_
  refine kx_bc (t := 13) rfl rfl (fun (h1 : nI k < 0) => ?_) (fun (h1 : ¬ (nI k < 0)) => ?_)
  · exact absurd h1 (nI_pos (by omega))
  · refine kx_st 0 (pc' := 4) (L' := [some (.ref a), some (.int (nI k)), some (.int 0), some (.int v)]) (st' := []) (h' := kv_wd g w) rfl ?_
    refine kx_st 2 (pc' := 6) (L' := [some (.ref a), some (.int (nI k)), some (.int 0), some (.int v)]) (st' := [.ref a, .int (nI k)]) (h' := kv_wd g w) rfl ?_
    refine kx_gf (i := 9) (k := 0) (v := .ref (a + 1)) rfl rfl ha.1 (ha.2.1 _ _) rfl ?_
    refine kx_al (n := 6) rfl ha.2.2.1 (by have := ha.2.2.2.2; omega) ?_
    refine kx_bi (t := 14) rfl rfl (fun (h10 : nI k < 6) => ?_) (fun (h10 : ¬ (nI k < 6)) => ?_)
    · refine kx_st 1 (pc' := 15) (L' := [some (.ref a), some (.int (nI k)), some (.int 0), some (.int v)]) (st' := [.int 0]) (h' := kv_wd g w) rfl ?_
      refine kx_st 1 (pc' := 18) (L' := [some (.ref a), some (.int (nI k)), some (.int 0), some (.int v)]) (st' := []) (h' := kv_wd g w) rfl ?_
      refine kx_st 1 (pc' := 19) (L' := [some (.ref a), some (.int (nI k)), some (.int 0), some (.int v)]) (st' := [.ref a]) (h' := kv_wd g w) rfl ?_
      refine kx_gf (i := 9) (k := 0) (v := .ref (a + 1)) rfl rfl ha.1 (ha.2.1 _ _) rfl ?_
      refine kx_st 2 (pc' := 24) (L' := [some (.ref a), some (.int (nI k)), some (.int 0), some (.int v)]) (st' := [.int v, .int (nI k), .ref (a + 1)]) (h' := kv_wd g w) rfl ?_
      refine kx_is (k := k) rfl ha.2.2.1 (by have := ha.2.2.2.2; omega) rfl (by omega) (by decide) ?_
      refine kx_st 1 (pc' := 35) (L' := [some (.ref a), some (.int (nI k)), some (.int 0), some (.int v)]) (st' := []) (h' := kv_wd (kv_up g (a + 1) k v) w) rfl ?_
      refine kx_ret (v := none) rfl ?_
      exact ⟨rfl, rfl⟩
    · exact absurd (nI_lt (a := k) (b := 6) hk (by decide)) h10
set_option maxRecDepth 100000 in
theorem ev_setHand_r {E : kv_V} {d : Nat} {g : kv_S} {w : kv_W} {a : Nat} (ha : kv_hd a) (k : Nat) (hk : k < 6) (v : Int32) : kv_ev E (d + 1) 3 [.ref a, .int (nI k), .int 1, .int v] (kv_wd g w) none (kv_wd (kv_up g (a + 2) k v) w) := by
  refine kx_ev (d := d + 0) (by decide) (Nat.le_of_ble_eq_true rfl) ?_
  refine kx_st 0 (pc' := 0) (L' := [some (.ref a), some (.int (nI k)), some (.int 1), some (.int v)]) (st' := []) (h' := kv_wd g w) rfl ?_
  refine kx_st 1 (pc' := 1) (L' := [some (.ref a), some (.int (nI k)), some (.int 1), some (.int v)]) (st' := [.int (nI k)]) (h' := kv_wd g w) rfl ?_
  refine kx_bc (t := 13) rfl rfl (fun (h1 : nI k < 0) => ?_) (fun (h1 : ¬ (nI k < 0)) => ?_)
  · exact absurd h1 (nI_pos (by omega))
  · refine kx_st 0 (pc' := 4) (L' := [some (.ref a), some (.int (nI k)), some (.int 1), some (.int v)]) (st' := []) (h' := kv_wd g w) rfl ?_
    refine kx_st 2 (pc' := 6) (L' := [some (.ref a), some (.int (nI k)), some (.int 1), some (.int v)]) (st' := [.ref a, .int (nI k)]) (h' := kv_wd g w) rfl ?_
    refine kx_gf (i := 9) (k := 0) (v := .ref (a + 1)) rfl rfl ha.1 (ha.2.1 _ _) rfl ?_
    refine kx_al (n := 6) rfl ha.2.2.1 (by have := ha.2.2.2.2; omega) ?_
    refine kx_bi (t := 14) rfl rfl (fun (h10 : nI k < 6) => ?_) (fun (h10 : ¬ (nI k < 6)) => ?_)
    · refine kx_st 1 (pc' := 15) (L' := [some (.ref a), some (.int (nI k)), some (.int 1), some (.int v)]) (st' := [.int 1]) (h' := kv_wd g w) rfl ?_
      refine kx_st 1 (pc' := 28) (L' := [some (.ref a), some (.int (nI k)), some (.int 1), some (.int v)]) (st' := []) (h' := kv_wd g w) rfl ?_
      refine kx_st 1 (pc' := 29) (L' := [some (.ref a), some (.int (nI k)), some (.int 1), some (.int v)]) (st' := [.ref a]) (h' := kv_wd g w) rfl ?_
      refine kx_gf (i := 15) (k := 1) (v := .ref (a + 2)) rfl rfl ha.1 (ha.2.1 _ _) rfl ?_
      refine kx_st 2 (pc' := 34) (L' := [some (.ref a), some (.int (nI k)), some (.int 1), some (.int v)]) (st' := [.int v, .int (nI k), .ref (a + 2)]) (h' := kv_wd g w) rfl ?_
      refine kx_is (k := k) rfl ha.2.2.2.1 ha.2.2.2.2 rfl (by omega) (by decide) ?_
      refine kx_ret (v := none) rfl ?_
      exact ⟨rfl, rfl⟩
    · exact absurd (nI_lt (a := k) (b := 6) hk (by decide)) h10
set_option maxRecDepth 100000 in
theorem ev_setThere_1 {E : kv_V} {d : Nat} {g : kv_S} {w : kv_W} (s k : Nat) (b1 : g 1 0 = nI s) (hs : s ≤ 6) (hk : k < s) : kv_ev E (d + 2) 15 [.ref 1, .int (nI k), .int 1] (kv_wd g w) none (kv_wd (kv_up g 1 1 (g 1 1 ||| 1 <<< (nI k &&& 31))) w) := by
  refine kx_ev (d := d + 1) (by decide) (Nat.le_of_ble_eq_true rfl) ?_
  refine kx_st 0 (pc' := 0) (L' := [some (.ref 1), some (.int (nI k)), some (.int 1)]) (st' := []) (h' := kv_wd g w) rfl ?_
  refine kx_st 2 (pc' := 2) (L' := [some (.ref 1), some (.int (nI k)), some (.int 1)]) (st' := [.int (nI k), .ref 1]) (h' := kv_wd g w) rfl ?_
  refine kx_call (z := 11) (as := [.ref 1, .int (nI k)]) (rest := []) (v := some (.int (kx_b (0 ≤ nI k ∧ nI k < nI s)))) (h1 := kv_wd g w) rfl (ev_isPersonS (d := d) (g := g) (s := s) b1 (nI k)) ?_
  refine kx_st 0 (pc' := 5) (L' := [some (.ref 1), some (.int (nI k)), some (.int 1)]) (st' := [.int (kx_b (0 ≤ nI k ∧ nI k < nI s))]) (h' := kv_wd g w) rfl ?_
  refine kx_be (t := 37) rfl rfl (fun (h5 : ¬ (0 ≤ nI k ∧ nI k < nI s)) => ?_) (fun (h5 : (0 ≤ nI k ∧ nI k < nI s)) => ?_)
  · exact absurd ⟨nI_le (a := 0) (b := k) (by omega) (by omega), nI_lt hk (by omega)⟩ h5
  · refine kx_st 0 (pc' := 8) (L' := [some (.ref 1), some (.int (nI k)), some (.int 1)]) (st' := []) (h' := kv_wd g w) rfl ?_
    refine kx_st 2 (pc' := 10) (L' := [some (.ref 1), some (.int (nI k)), some (.int 1)]) (st' := [.int 1, .ref 1]) (h' := kv_wd g w) rfl ?_
    refine kx_st 1 (pc' := 13) (L' := [some (.ref 1), some (.int (nI k)), some (.int 1)]) (st' := [.ref 1]) (h' := kv_wd g w) rfl ?_
    refine kx_st 7 (pc' := 34) (L' := [some (.ref 1), some (.int (nI k)), some (.int 1)]) (st' := [.int ((g 1 1) ||| (1 <<< ((nI k) &&& 31))), .ref 1]) (h' := kv_wd g w) rfl ?_
    refine kx_pf (i := 13) (k := 1) (x := ((g 1 1) ||| (1 <<< ((nI k) &&& 31)))) rfl rfl (by decide) rfl (Nat.le_of_ble_eq_true rfl) rfl rfl rfl ?_
    refine kx_ret (v := none) rfl ?_
    exact ⟨rfl, rfl⟩
set_option maxRecDepth 100000 in
theorem ev_setThere_0 {E : kv_V} {d : Nat} {g : kv_S} {w : kv_W} (s k : Nat) (b1 : g 1 0 = nI s) (hs : s ≤ 6) (hk : k < s) : kv_ev E (d + 2) 15 [.ref 1, .int (nI k), .int 0] (kv_wd g w) none (kv_wd (kv_up g 1 1 (g 1 1 &&& ((1 <<< (nI k &&& 31)) ^^^ (-1)))) w) := by
  refine kx_ev (d := d + 1) (by decide) (Nat.le_of_ble_eq_true rfl) ?_
  refine kx_st 0 (pc' := 0) (L' := [some (.ref 1), some (.int (nI k)), some (.int 0)]) (st' := []) (h' := kv_wd g w) rfl ?_
  refine kx_st 2 (pc' := 2) (L' := [some (.ref 1), some (.int (nI k)), some (.int 0)]) (st' := [.int (nI k), .ref 1]) (h' := kv_wd g w) rfl ?_
  refine kx_call (z := 11) (as := [.ref 1, .int (nI k)]) (rest := []) (v := some (.int (kx_b (0 ≤ nI k ∧ nI k < nI s)))) (h1 := kv_wd g w) rfl (ev_isPersonS (d := d) (g := g) (s := s) b1 (nI k)) ?_
  refine kx_st 0 (pc' := 5) (L' := [some (.ref 1), some (.int (nI k)), some (.int 0)]) (st' := [.int (kx_b (0 ≤ nI k ∧ nI k < nI s))]) (h' := kv_wd g w) rfl ?_
  refine kx_be (t := 37) rfl rfl (fun (h5 : ¬ (0 ≤ nI k ∧ nI k < nI s)) => ?_) (fun (h5 : (0 ≤ nI k ∧ nI k < nI s)) => ?_)
  · exact absurd ⟨nI_le (a := 0) (b := k) (by omega) (by omega), nI_lt hk (by omega)⟩ h5
  · refine kx_st 0 (pc' := 8) (L' := [some (.ref 1), some (.int (nI k)), some (.int 0)]) (st' := []) (h' := kv_wd g w) rfl ?_
    refine kx_st 2 (pc' := 10) (L' := [some (.ref 1), some (.int (nI k)), some (.int 0)]) (st' := [.int 0, .ref 1]) (h' := kv_wd g w) rfl ?_
    refine kx_st 1 (pc' := 24) (L' := [some (.ref 1), some (.int (nI k)), some (.int 0)]) (st' := [.ref 1]) (h' := kv_wd g w) rfl ?_
    refine kx_st 8 (pc' := 34) (L' := [some (.ref 1), some (.int (nI k)), some (.int 0)]) (st' := [.int ((g 1 1) &&& ((1 <<< ((nI k) &&& 31)) ^^^ (-1))), .ref 1]) (h' := kv_wd g w) rfl ?_
    refine kx_pf (i := 13) (k := 1) (x := ((g 1 1) &&& ((1 <<< ((nI k) &&& 31)) ^^^ (-1)))) rfl rfl (by decide) rfl (Nat.le_of_ble_eq_true rfl) rfl rfl rfl ?_
    refine kx_ret (v := none) rfl ?_
    exact ⟨rfl, rfl⟩
theorem kx_st_s (g : kv_S) (k : Nat) : kv_up (kv_up (kv_uf (kv_uf g 3 (kx_mv (fun _ => 10) (g 3) k)) 4 (kx_mv (fun _ => 20) (g 4) k)) 3 k 10) 4 k 20 = kv_uf (kv_uf g 3 (kx_mv (fun _ => 10) (g 3) (k + 1))) 4 (kx_mv (fun _ => 20) (g 4) (k + 1)) := by
  funext b
  by_cases h4 : b = 4
  · subst h4
    show upd (kx_mv (fun _ => 20) (g 4) k) k 20 = kx_mv (fun _ => 20) (g 4) (k + 1)
    exact kx_mv_s (fun _ => 20) (g 4) k
  · by_cases h3 : b = 3
    · subst h3
      show upd (kx_mv (fun _ => 10) (g 3) k) k 10 = kx_mv (fun _ => 10) (g 3) (k + 1)
      exact kx_mv_s (fun _ => 10) (g 3) k
    · rw [kv_up_ne h4, kv_up_ne h3, kv_uf_ne h4, kv_uf_ne h3, kv_uf_ne h4, kv_uf_ne h3]
/-- the row as begins leaves it -/
def kx_bg (r : Nat → Int32) (k : Nat) : Nat → Int32 := fun j => if 8 ≤ j ∧ j < 8 + k then 10 else if 14 ≤ j ∧ j < 14 + k then 20 else if 20 ≤ j ∧ j < 20 + k then 1 else r j
theorem kx_bg_0 (r : Nat → Int32) : kx_bg r 0 = r := by
  funext j; unfold kx_bg; rw [if_neg (by omega), if_neg (by omega), if_neg (by omega)]
theorem kx_bg_s (g : kv_S) {k : Nat} (hk : k < 6) : kv_up (kv_up (kv_up (kv_uf g 66 (kx_bg (g 66) k)) 66 (8 + k) 10) 66 (14 + k) 20) 66 (20 + k) 1 = kv_uf g 66 (kx_bg (g 66) (k + 1)) := by
  funext b
  by_cases h : b = 66
  · subst h
    show upd (upd (upd (kx_bg (g 66) k) (8 + k) 10) (14 + k) 20) (20 + k) 1 = kx_bg (g 66) (k + 1)
    funext j
    unfold upd kx_bg
    by_cases h1 : j = 20 + k
    · rw [if_pos h1, if_neg (by omega), if_neg (by omega), if_pos (by omega)]
    · rw [if_neg h1]
      by_cases h2 : j = 14 + k
      · rw [if_pos h2, if_neg (by omega), if_pos (by omega)]
      · rw [if_neg h2]
        by_cases h3 : j = 8 + k
        · rw [if_pos h3, if_pos (by omega)]
        · rw [if_neg h3]
          have e1 : (8 ≤ j ∧ j < 8 + k) ↔ (8 ≤ j ∧ j < 8 + (k + 1)) := by omega
          have e2 : (14 ≤ j ∧ j < 14 + k) ↔ (14 ≤ j ∧ j < 14 + (k + 1)) := by omega
          have e3 : (20 ≤ j ∧ j < 20 + k) ↔ (20 ≤ j ∧ j < 20 + (k + 1)) := by omega
          simp only [e1, e2, e3]
  · rw [kv_up_ne h, kv_up_ne h, kv_up_ne h, kv_uf_ne h, kv_uf_ne h]
set_option maxRecDepth 100000 in
theorem lp_settle {E : kv_V} {d : Nat} {g : kv_S} {w : kv_W} (n0 : Int32) {P : Option Value → kv_H → Prop} (hP : P none (kv_wd (kv_uf (kv_uf g 3 (kx_mv (fun _ => 10) (g 3) 6)) 4 (kx_mv (fun _ => 20) (g 4) 6)) w)) : ∀ n k : Nat, k + n = 6 → kx_V E (d + 1) 9 16 [some (.ref 1), some (.int n0), some (.int (nI k))] [] (kv_wd (kv_uf (kv_uf g 3 (kx_mv (fun _ => 10) (g 3) k)) 4 (kx_mv (fun _ => 20) (g 4) k)) w) P := by
  intro n
  induction n with
  | zero =>
    intro k hkk
    have hkN : k = 6 := by omega
    refine kx_st 2 (pc' := 19) (L' := [some (.ref 1), some (.int n0), some (.int (nI k))]) (st' := [.int 6, .int (nI k)]) (h' := kv_wd (kv_uf (kv_uf g 3 (kx_mv (fun _ => 10) (g 3) k)) 4 (kx_mv (fun _ => 20) (g 4) k)) w) rfl ?_
    refine kx_bi (t := 50) rfl rfl (fun (h19 : 6 ≤ nI k) => ?_) (fun (h19 : ¬ (6 ≤ nI k)) => ?_)
    · refine kx_ret (v := none) rfl ?_
      subst hkN
      exact hP
    · exact absurd (nI_le (a := 6) (b := k) (by omega) (by omega)) h19
  | succ n ih =>
    intro k hkk
    refine kx_st 2 (pc' := 19) (L' := [some (.ref 1), some (.int n0), some (.int (nI k))]) (st' := [.int 6, .int (nI k)]) (h' := kv_wd (kv_uf (kv_uf g 3 (kx_mv (fun _ => 10) (g 3) k)) 4 (kx_mv (fun _ => 20) (g 4) k)) w) rfl ?_
    refine kx_bi (t := 50) rfl rfl (fun (h19 : 6 ≤ nI k) => ?_) (fun (h19 : ¬ (6 ≤ nI k)) => ?_)
    · exact absurd h19 (nI_ge (a := k) (b := 6) (by omega) (by omega))
    · refine kx_st 0 (pc' := 22) (L' := [some (.ref 1), some (.int n0), some (.int (nI k))]) (st' := []) (h' := kv_wd (kv_uf (kv_uf g 3 (kx_mv (fun _ => 10) (g 3) k)) 4 (kx_mv (fun _ => 20) (g 4) k)) w) rfl ?_
      refine kx_st 5 (pc' := 30) (L' := [some (.ref 1), some (.int n0), some (.int (nI k))]) (st' := [.int 10, .int 0, .int (nI k), .ref 2]) (h' := kv_wd (kv_uf (kv_uf g 3 (kx_mv (fun _ => 10) (g 3) k)) 4 (kx_mv (fun _ => 20) (g 4) k)) w) rfl ?_
      refine kx_call (z := 3) (as := [.ref 2, .int (nI k), .int 0, .int 10]) (rest := []) (v := none) (h1 := kv_wd (kv_up (kv_uf (kv_uf g 3 (kx_mv (fun _ => 10) (g 3) k)) 4 (kx_mv (fun _ => 20) (g 4) k)) (2 + 1) k 10) w) rfl (ev_setHand_l (d := d) kv_hd2 k (by omega) 10) ?_
      refine kx_st 0 (pc' := 33) (L' := [some (.ref 1), some (.int n0), some (.int (nI k))]) (st' := []) (h' := kv_wd (kv_up (kv_uf (kv_uf g 3 (kx_mv (fun _ => 10) (g 3) k)) 4 (kx_mv (fun _ => 20) (g 4) k)) (2 + 1) k 10) w) rfl ?_
      refine kx_st 5 (pc' := 41) (L' := [some (.ref 1), some (.int n0), some (.int (nI k))]) (st' := [.int 20, .int 1, .int (nI k), .ref 2]) (h' := kv_wd (kv_up (kv_uf (kv_uf g 3 (kx_mv (fun _ => 10) (g 3) k)) 4 (kx_mv (fun _ => 20) (g 4) k)) (2 + 1) k 10) w) rfl ?_
      refine kx_call (z := 3) (as := [.ref 2, .int (nI k), .int 1, .int 20]) (rest := []) (v := none) (h1 := kv_wd (kv_up (kv_up (kv_uf (kv_uf g 3 (kx_mv (fun _ => 10) (g 3) k)) 4 (kx_mv (fun _ => 20) (g 4) k)) (2 + 1) k 10) (2 + 2) k 20) w) rfl (ev_setHand_r (d := d) kv_hd2 k (by omega) 20) ?_
      refine kx_st 0 (pc' := 44) (L' := [some (.ref 1), some (.int n0), some (.int (nI k))]) (st' := []) (h' := kv_wd (kv_up (kv_up (kv_uf (kv_uf g 3 (kx_mv (fun _ => 10) (g 3) k)) 4 (kx_mv (fun _ => 20) (g 4) k)) (2 + 1) k 10) (2 + 2) k 20) w) rfl ?_
      refine kx_st 2 (pc' := 16) (L' := [some (.ref 1), some (.int n0), some (.int ((nI k) + 1))]) (st' := []) (h' := kv_wd (kv_up (kv_up (kv_uf (kv_uf g 3 (kx_mv (fun _ => 10) (g 3) k)) 4 (kx_mv (fun _ => 20) (g 4) k)) (2 + 1) k 10) (2 + 2) k 20) w) rfl ?_
      rw [kx_st_s, ← nI_succ]
      exact ih (k + 1) (by omega)
set_option maxRecDepth 100000 in
theorem ev_settle {E : kv_V} {d : Nat} {g : kv_S} {w : kv_W} (n : Int32) : kv_ev E (d + 2) 9 [.ref 1, .int n] (kv_wd g w) none (kv_wd (kv_uf (kv_uf (kv_up (kv_up g 1 0 n) 1 1 ((1 <<< (n &&& 31)) - 1)) 3 (kx_mv (fun _ => 10) (g 3) 6)) 4 (kx_mv (fun _ => 20) (g 4) 6)) w) := by
  refine kx_ev (d := d + 1) (by decide) (Nat.le_of_ble_eq_true rfl) ?_
  refine kx_st 0 (pc' := 0) (L' := [some (.ref 1), some (.int n), none]) (st' := []) (h' := kv_wd g w) rfl ?_
  refine kx_st 2 (pc' := 2) (L' := [some (.ref 1), some (.int n), none]) (st' := [.int n, .ref 1]) (h' := kv_wd g w) rfl ?_
  refine kx_pf (i := 7) (k := 0) (x := n) rfl rfl (by decide) rfl (Nat.le_of_ble_eq_true rfl) rfl rfl rfl ?_
  refine kx_st 6 (pc' := 11) (L' := [some (.ref 1), some (.int n), none]) (st' := [.int ((1 <<< (n &&& 31)) - 1), .ref 1]) (h' := kv_wd (kv_up g 1 0 n) w) rfl ?_
  refine kx_pf (i := 13) (k := 1) (x := ((1 <<< (n &&& 31)) - 1)) rfl rfl (by decide) rfl (Nat.le_of_ble_eq_true rfl) rfl rfl rfl ?_
  refine kx_st 2 (pc' := 16) (L' := [some (.ref 1), some (.int n), some (.int 0)]) (st' := []) (h' := kv_wd (kv_up (kv_up g 1 0 n) 1 1 ((1 <<< (n &&& 31)) - 1)) w) rfl ?_
  have h := lp_settle (E := E) (d := d) (g := kv_up (kv_up g 1 0 n) 1 1 ((1 <<< (n &&& 31)) - 1)) (w := w) n (P := fun v h' => v = none ∧ h' = kv_wd (kv_uf (kv_uf (kv_up (kv_up g 1 0 n) 1 1 ((1 <<< (n &&& 31)) - 1)) 3 (kx_mv (fun _ => 10) (g 3) 6)) 4 (kx_mv (fun _ => 20) (g 4) 6)) w) ⟨rfl, rfl⟩ 6 0 (by omega)
  rw [kx_mv_0, kx_mv_0, kv_uf_id, kv_uf_id] at h
  exact h
set_option maxRecDepth 100000 in
theorem lp_begins {E : kv_V} {d : Nat} {g : kv_S} {w : kv_W}  {P : Option Value → kv_H → Prop} (hP : P none (kv_wd (kv_uf g 66 (kx_bg (g 66) 6)) w)) : ∀ n k : Nat, k + n = 6 → kx_V E d 135 2 [some (.ref 65), some (.int (nI k))] [] (kv_wd (kv_uf g 66 (kx_bg (g 66) k)) w) P := by
  intro n
  induction n with
  | zero =>
    intro k hkk
    have hkN : k = 6 := by omega
    refine kx_st 2 (pc' := 5) (L' := [some (.ref 65), some (.int (nI k))]) (st' := [.int 6, .int (nI k)]) (h' := kv_wd (kv_uf g 66 (kx_bg (g 66) k)) w) rfl ?_
    refine kx_bi (t := 46) rfl rfl (fun (h5 : 6 ≤ nI k) => ?_) (fun (h5 : ¬ (6 ≤ nI k)) => ?_)
    · refine kx_ret (v := none) rfl ?_
      subst hkN
      exact hP
    · exact absurd (nI_le (a := 6) (b := k) (by omega) (by omega)) h5
  | succ n ih =>
    intro k hkk
    refine kx_st 2 (pc' := 5) (L' := [some (.ref 65), some (.int (nI k))]) (st' := [.int 6, .int (nI k)]) (h' := kv_wd (kv_uf g 66 (kx_bg (g 66) k)) w) rfl ?_
    refine kx_bi (t := 46) rfl rfl (fun (h5 : 6 ≤ nI k) => ?_) (fun (h5 : ¬ (6 ≤ nI k)) => ?_)
    · exact absurd h5 (nI_ge (a := k) (b := 6) (by omega) (by omega))
    · refine kx_st 0 (pc' := 8) (L' := [some (.ref 65), some (.int (nI k))]) (st' := []) (h' := kv_wd (kv_uf g 66 (kx_bg (g 66) k)) w) rfl ?_
      refine kx_st 6 (pc' := 18) (L' := [some (.ref 65), some (.int (nI k))]) (st' := [.int 10, .int (8 + (nI k)), .ref 66]) (h' := kv_wd (kv_uf g 66 (kx_bg (g 66) k)) w) rfl ?_
      refine kx_is (k := (8 + k)) rfl rfl (by decide) (kx_nadd _ _) (by omega) (by decide) ?_
      refine kx_st 6 (pc' := 29) (L' := [some (.ref 65), some (.int (nI k))]) (st' := [.int 20, .int (14 + (nI k)), .ref 66]) (h' := kv_wd (kv_up (kv_uf g 66 (kx_bg (g 66) k)) 66 (8 + k) 10) w) rfl ?_
      refine kx_is (k := (14 + k)) rfl rfl (by decide) (kx_nadd _ _) (by omega) (by decide) ?_
      refine kx_st 6 (pc' := 39) (L' := [some (.ref 65), some (.int (nI k))]) (st' := [.int 1, .int (20 + (nI k)), .ref 66]) (h' := kv_wd (kv_up (kv_up (kv_uf g 66 (kx_bg (g 66) k)) 66 (8 + k) 10) 66 (14 + k) 20) w) rfl ?_
      refine kx_is (k := (20 + k)) rfl rfl (by decide) (kx_nadd _ _) (by omega) (by decide) ?_
      refine kx_st 2 (pc' := 2) (L' := [some (.ref 65), some (.int ((nI k) + 1))]) (st' := []) (h' := kv_wd (kv_up (kv_up (kv_up (kv_uf g 66 (kx_bg (g 66) k)) 66 (8 + k) 10) 66 (14 + k) 20) 66 (20 + k) 1) w) rfl ?_
      rw [kx_bg_s g (by omega), ← nI_succ]
      exact ih (k + 1) (by omega)
set_option maxRecDepth 100000 in
theorem ev_begins {E : kv_V} {d : Nat} {g : kv_S} {w : kv_W}  : kv_ev E (d + 1) 135 [.ref 65] (kv_wd g w) none (kv_wd (kv_uf g 66 (kx_bg (g 66) 6)) w) := by
  refine kx_ev (d := d + 0) (by decide) (Nat.le_of_ble_eq_true rfl) ?_
  refine kx_st 0 (pc' := 0) (L' := [some (.ref 65), none]) (st' := []) (h' := kv_wd g w) rfl ?_
  refine kx_st 2 (pc' := 2) (L' := [some (.ref 65), some (.int 0)]) (st' := []) (h' := kv_wd g w) rfl ?_
  have h := lp_begins (E := E) (d := d) (g := g) (w := w) (P := fun v h' => v = none ∧ h' = kv_wd (kv_uf g 66 (kx_bg (g 66) 6)) w) ⟨rfl, rfl⟩ 6 0 (by omega)
  rw [kx_bg_0, kv_uf_id] at h
  exact h
theorem kx_b2 {v : Int32} (h : 0 ≤ v ∧ v ≤ 2) : v = 0 ∨ v = 1 ∨ v = 2 := by
  obtain ⟨k, hk, rfl⟩ := kx_nIof (n := 2) h.1 h.2 (by omega)
  rcases (show k = 0 ∨ k = 1 ∨ k = 2 by omega) with rfl | rfl | rfl
  · exact Or.inl rfl
  · exact Or.inr (Or.inl rfl)
  · exact Or.inr (Or.inr rfl)
theorem kx_b1 {v : Int32} (h : 0 ≤ v ∧ v ≤ 1) : v = 0 ∨ v = 1 := by
  obtain ⟨k, hk, rfl⟩ := kx_nIof (n := 1) h.1 h.2 (by omega)
  rcases (show k = 0 ∨ k = 1 by omega) with rfl | rfl
  · exact Or.inl rfl
  · exact Or.inr rfl
theorem kx_le12 {v : Int32} (h : 0 ≤ v ∧ v ≤ 1) : 0 ≤ v ∧ v ≤ 2 := by
  rcases kx_b1 h with rfl | rfl <;> decide
theorem kx_tv {t s k : Nat} (hs : s ≤ 6) (ht : t < 2 ^ s) (hk : k < s) : ((0 ≤ nI k ∧ nI k < nI s) ∧ ((nI t >>> (nI k &&& 31)) &&& 1) = 1) ↔ t.testBit k = true := by
  have h64 : t < 64 := Nat.lt_of_lt_of_le ht (Nat.pow_le_pow_right (by omega) hs)
  rw [kx_tb t h64 k (by omega)]
  exact ⟨fun h => h.2, fun h => ⟨⟨nI_le (a := 0) (b := k) (by omega) (by omega), nI_lt hk (by omega)⟩, h⟩⟩
theorem kx_sb : ∀ t, t < 64 → ∀ k, k < 6 → (nI t ||| (1 <<< (nI k &&& 31))) = nI (t ||| 2 ^ k) ∧ (nI t &&& ((1 <<< (nI k &&& 31)) ^^^ (-1))) = nI (t &&& (63 ^^^ 2 ^ k)) := by decide +kernel
theorem kx_sb2 : ∀ t, t < 64 → ∀ k, k < 6 → ∀ p, p < 6 → (t ||| 2 ^ k).testBit p = (t.testBit p || p == k) ∧ (t &&& (63 ^^^ 2 ^ k)).testBit p = (t.testBit p && !(p == k)) := by decide +kernel
theorem kx_sbl {t s k : Nat} (ht : t < 2 ^ s) (hk : k < s) : t ||| 2 ^ k < 2 ^ s ∧ t &&& (63 ^^^ 2 ^ k) < 2 ^ s := ⟨Nat.or_lt_two_pow ht (Nat.pow_lt_pow_right (by omega) hk), Nat.lt_of_le_of_lt Nat.and_le_left ht⟩
theorem kx_H2_l {lf rt r : Nat → Int32} {k x : Nat} (hk : k < 6) (hx : x ≤ 99) (h : kx_H2 lf rt r) : kx_H2 (upd lf k (nI x)) rt (upd r (8 + k) (nI x)) := by
  intro p hp
  obtain ⟨⟨h1, h2⟩, h3, h4, h5⟩ := h p hp
  rw [kx_upn (r := r) (j := 14 + p) (k := 8 + k) (by omega), kx_upn (r := r) (j := 20 + p) (k := 8 + k) (by omega)]
  by_cases hpk : p = k
  · subst hpk
    rw [kx_ups, kx_ups]
    exact ⟨⟨rfl, h2⟩, h3, ⟨x, hx, rfl⟩, h5⟩
  · rw [kx_upn hpk, kx_upn (by omega)]
    exact ⟨⟨h1, h2⟩, h3, h4, h5⟩
theorem kx_H2_r {lf rt r : Nat → Int32} {k x : Nat} (hk : k < 6) (hx : x ≤ 99) (h : kx_H2 lf rt r) : kx_H2 lf (upd rt k (nI x)) (upd r (14 + k) (nI x)) := by
  intro p hp
  obtain ⟨⟨h1, h2⟩, h3, h4, h5⟩ := h p hp
  rw [kx_upn (r := r) (j := 8 + p) (k := 14 + k) (by omega), kx_upn (r := r) (j := 20 + p) (k := 14 + k) (by omega)]
  by_cases hpk : p = k
  · subst hpk
    rw [kx_ups, kx_ups]
    exact ⟨⟨h1, rfl⟩, h3, h4, ⟨x, hx, rfl⟩⟩
  · rw [kx_upn hpk, kx_upn (by omega)]
    exact ⟨⟨h1, h2⟩, h3, h4, h5⟩
theorem kx_H2_t {lf rt r : Nat → Int32} {k : Nat} {v : Int32} (hk : k < 6) (hv : v = 0 ∨ v = 1) (h : kx_H2 lf rt r) : kx_H2 lf rt (upd r (20 + k) v) := by
  intro p hp
  obtain ⟨⟨h1, h2⟩, h3, h4, h5⟩ := h p hp
  rw [kx_upn (r := r) (j := 8 + p) (k := 20 + k) (by omega), kx_upn (r := r) (j := 14 + p) (k := 20 + k) (by omega)]
  by_cases hpk : p = k
  · subst hpk
    rw [kx_ups]
    exact ⟨⟨h1, h2⟩, hv, h4, h5⟩
  · rw [kx_upn (by omega)]
    exact ⟨⟨h1, h2⟩, h3, h4, h5⟩
/-- one is there or is gone -/
theorem kx_H1_t {h1 h1' r : Nat → Int32} {kn : Nat → Nat → Int32} {k s t : Nat} {v x : Int32} (hs : h1 0 = nI s) (hs6 : s ≤ 6) (ht : h1 1 = nI t) (ht2 : t < 2 ^ s) (hk : k < s) (e0 : h1' 0 = h1 0) (e4 : h1' 4 = h1 4) (e1 : h1' 1 = x) (hx : (v = 1 ∧ x = (nI t ||| (1 <<< (nI k &&& 31)))) ∨ (v = 0 ∧ x = (nI t &&& ((1 <<< (nI k &&& 31)) ^^^ (-1))))) (h : kx_H1 h1 r kn) : kx_H1 h1' (upd r (20 + k) v) kn := by
  obtain ⟨s', t', m, ⟨a1, a2, a3, a4⟩, ⟨b1, b2⟩, ⟨c1, c2⟩, ⟨d1, d2⟩, hkn⟩ := h
  have es : s' = s := kx_nI_inj (by omega) (by omega) (b1.symm.trans hs)
  subst es
  have h64 : t < 64 := Nat.lt_of_lt_of_le ht2 (Nat.pow_le_pow_right (by omega) hs6)
  have h64' : t' < 64 := Nat.lt_of_lt_of_le a3 (Nat.pow_le_pow_right (by omega) hs6)
  have et : t' = t := kx_nI_inj (by omega) (by omega) (c1.symm.trans ht)
  subst et
  obtain ⟨u1, u2⟩ := kx_sb t' h64 k (by omega)
  obtain ⟨w1, w2⟩ := kx_sbl ht2 hk
  have key : ∃ t2, t2 < 2 ^ s' ∧ x = nI t2 ∧ ∀ p, p < 6 → t2.testBit p = if p = k then decide (v = 1) else t'.testBit p := by
    rcases hx with ⟨rfl, rfl⟩ | ⟨rfl, rfl⟩
    · refine ⟨_, w1, u1, fun p hp => ?_⟩
      rw [(kx_sb2 t' h64 k (by omega) p hp).1]
      by_cases hpk : p = k
      · rw [if_pos hpk]; simp [hpk]
      · rw [if_neg hpk]; simp [hpk]
    · refine ⟨_, w2, u2, fun p hp => ?_⟩
      rw [(kx_sb2 t' h64 k (by omega) p hp).2]
      by_cases hpk : p = k
      · rw [if_pos hpk]; simp [hpk]
      · rw [if_neg hpk]; simp [hpk]
  obtain ⟨t2, y1, y2, y3⟩ := key
  refine ⟨s', t2, m, ⟨a1, a2, y1, a4⟩, ⟨by rw [e0, b1], by rw [kx_upn (by omega), b2]⟩, ⟨by rw [e1, y2], fun p hp => ?_⟩, ⟨by rw [e4, d1], by rw [kx_upn (by omega), d2]⟩, fun i hi => ?_⟩
  · rw [y3 p (by omega)]
    by_cases hpk : p = k
    · subst hpk
      rw [kx_ups, if_pos rfl]
      rcases hx with ⟨rfl, -⟩ | ⟨rfl, -⟩ <;> rfl
    · rw [kx_upn (by omega), if_neg hpk]
      exact c2 p hp
  · exact kx_K_cg (fun _ _ => rfl) (fun c hc => kx_upn (by omega)) (hkn i hi)
section KP9
variable {E : kv_V} {lr : kx_LR}
set_option maxRecDepth 100000 in
theorem pr_ofPerson (a b : Int32) : kx_ok2 E (kx_Rl lr) 83 145 [.int a, .int b] := by
  intro g w i hR hi
  have hR0 := hR
  obtain ⟨q, cu, ⟨H1, H2, H3, H4, H5, hz, l0, l1⟩, im, sh, tr, er⟩ := id hR
  obtain ⟨s, t, m, ⟨a1, a2, a3, a4⟩, ⟨b1, b2⟩, ⟨c1, c2⟩, ⟨d1, d2⟩, hk⟩ := id H1
  by_cases hp : 0 ≤ a ∧ a < nI s
  · obtain ⟨k, hks, rfl⟩ := kx_nIlt hp.1 hp.2 (by omega)
    by_cases hw : 0 ≤ b ∧ b ≤ 2
    · rcases kx_b2 hw with rfl | rfl | rfl
      · refine kx_two (by decide) (Nat.le_of_ble_eq_true rfl) (by decide) (Nat.le_of_ble_eq_true rfl) ?_
        refine kx_st 0 (pc' := 0) (L' := [some (.ref 0), some (.int (nI k)), some (.int 0)]) (st' := []) (h' := kv_wd g w) rfl ?_
        refine kx_st 3 (pc' := 5) (L' := [some (.ref 0), some (.int (nI k)), some (.int 0)]) (st' := [.int (nI k), .ref 1]) (h' := kv_wd g w) rfl ?_
        refine kx_call (z := 11) (as := [.ref 1, .int (nI k)]) (rest := []) (v := some (.int (kx_b (0 ≤ nI k ∧ nI k < nI s)))) (h1 := kv_wd g w) rfl (ev_isPersonS (d := 898) (g := g) (s := s) b1 (nI k)) ?_
        refine kx_st 0 (pc' := 8) (L' := [some (.ref 0), some (.int (nI k)), some (.int 0)]) (st' := [.int (kx_b (0 ≤ nI k ∧ nI k < nI s))]) (h' := kv_wd g w) rfl ?_
        refine kx_be (t := 19) rfl rfl (fun (h8 : ¬ (0 ≤ nI k ∧ nI k < nI s)) => ?_) (fun (h8 : (0 ≤ nI k ∧ nI k < nI s)) => ?_)
        · exact absurd hp h8
        · refine kx_st 0 (pc' := 11) (L' := [some (.ref 0), some (.int (nI k)), some (.int 0)]) (st' := []) (h' := kv_wd g w) rfl ?_
          refine kx_st 2 (pc' := 13) (L' := [some (.ref 0), some (.int (nI k)), some (.int 0)]) (st' := [.int 2, .int 0]) (h' := kv_wd g w) rfl ?_
          refine kx_call (z := 124) (as := [.int 0, .int 2]) (rest := []) (v := some (.int (kx_b (0 ≤ (0 : Int32) ∧ (0 : Int32) ≤ 2)))) (h1 := kv_wd g w) rfl (ev_within (d := 898) 0 2) ?_
          refine kx_st 0 (pc' := 16) (L' := [some (.ref 0), some (.int (nI k)), some (.int 0)]) (st' := [.int (kx_b (0 ≤ (0 : Int32) ∧ (0 : Int32) ≤ 2))]) (h' := kv_wd g w) rfl ?_
          refine kx_bn (t := 25) rfl rfl (fun (h16 : (0 ≤ (0 : Int32) ∧ (0 : Int32) ≤ 2)) => ?_) (fun (h16 : ¬ (0 ≤ (0 : Int32) ∧ (0 : Int32) ≤ 2)) => ?_)
          · refine kx_st 4 (pc' := 31) (L' := [some (.ref 0), some (.int (nI k)), some (.int 0)]) (st' := [.int 0, .int (nI k), .ref 1]) (h' := kv_wd g w) rfl ?_
            refine kx_call (z := 16) (as := [.ref 1, .int (nI k), .int 0]) (rest := []) (v := some (.int (if (0 : Int32) = 2 then kx_b ((0 ≤ nI k ∧ nI k < g 1 0) ∧ ((g 1 1 >>> (nI k &&& 31)) &&& 1) = 1) else if (0 : Int32) = 0 then g 3 k else g 4 k))) (h1 := kv_wd g w) rfl (ev_personHas (d := 896) k (by omega) 0) ?_
            refine kx_st 0 (pc' := 34) (L' := [some (.ref 0), some (.int (nI k)), some (.int 0)]) (st' := [.int (if (0 : Int32) = 2 then kx_b ((0 ≤ nI k ∧ nI k < g 1 0) ∧ ((g 1 1 >>> (nI k &&& 31)) &&& 1) = 1) else if (0 : Int32) = 0 then g 3 k else g 4 k)]) (h' := kv_wd g w) rfl ?_
            refine kx_ret (v := some (.int (if (0 : Int32) = 2 then kx_b ((0 ≤ nI k ∧ nI k < g 1 0) ∧ ((g 1 1 >>> (nI k &&& 31)) &&& 1) = 1) else if (0 : Int32) = 0 then g 3 k else g 4 k))) rfl ?_
            refine ⟨_, _, _, rfl, rfl, ?_⟩
            refine kx_st 0 (pc' := 0) (L' := [some (.ref 65), some (.int (nI k)), some (.int 0)]) (st' := []) (h' := kv_wd g w) rfl ?_
            refine kx_st 2 (pc' := 2) (L' := [some (.ref 65), some (.int (nI k)), some (.int 0)]) (st' := [.int (nI k), .ref 65]) (h' := kv_wd g w) rfl ?_
            refine kx_call (z := 138) (as := [.ref 65, .int (nI k)]) (rest := []) (v := some (.int (kx_b (0 ≤ nI k ∧ nI k < nI s)))) (h1 := kv_wd g w) rfl (ev_mPersonS (d := 897) (g := g) (s := s) b2 a2 (nI k)) ?_
            refine kx_st 0 (pc' := 5) (L' := [some (.ref 65), some (.int (nI k)), some (.int 0)]) (st' := [.int (kx_b (0 ≤ nI k ∧ nI k < nI s))]) (h' := kv_wd g w) rfl ?_
            refine kx_be (t := 34) rfl rfl (fun (m5 : ¬ (0 ≤ nI k ∧ nI k < nI s)) => ?_) (fun (m5 : (0 ≤ nI k ∧ nI k < nI s)) => ?_)
            · exact absurd hp m5
            · refine kx_st 0 (pc' := 8) (L' := [some (.ref 65), some (.int (nI k)), some (.int 0)]) (st' := []) (h' := kv_wd g w) rfl ?_
              refine kx_st 3 (pc' := 11) (L' := [some (.ref 65), some (.int (nI k)), some (.int 0)]) (st' := [.int 2, .int 0, .int 0]) (h' := kv_wd g w) rfl ?_
              refine kx_call (z := 130) (as := [.int 0, .int 0, .int 2]) (rest := []) (v := some (.int (kx_b (0 ≤ (0 : Int32) ∧ (0 : Int32) ≤ 2)))) (h1 := kv_wd g w) rfl (ev_in (d := 898) 0 0 2) ?_
              refine kx_st 0 (pc' := 14) (L' := [some (.ref 65), some (.int (nI k)), some (.int 0)]) (st' := [.int (kx_b (0 ≤ (0 : Int32) ∧ (0 : Int32) ≤ 2))]) (h' := kv_wd g w) rfl ?_
              refine kx_be (t := 34) rfl rfl (fun (m14 : ¬ (0 ≤ (0 : Int32) ∧ (0 : Int32) ≤ 2)) => ?_) (fun (m14 : (0 ≤ (0 : Int32) ∧ (0 : Int32) ≤ 2)) => ?_)
              · exact absurd hw m14
              · refine kx_st 0 (pc' := 17) (L' := [some (.ref 65), some (.int (nI k)), some (.int 0)]) (st' := []) (h' := kv_wd g w) rfl ?_
                refine kx_st 9 (pc' := 30) (L' := [some (.ref 65), some (.int (nI k)), some (.int 0)]) (st' := [.int (8 + (nI k)), .ref 66]) (h' := kv_wd g w) rfl ?_
                refine kx_ia (k := (8 + k)) rfl rfl (by decide) (kx_nadd 8 k) (by omega) (by decide) ?_
                refine kx_st 1 (pc' := 40) (L' := [some (.ref 65), some (.int (nI k)), some (.int 0)]) (st' := [.int (g 66 (8 + k))]) (h' := kv_wd g w) rfl ?_
                refine kx_ret (v := some (.int (g 66 (8 + k)))) rfl ?_
                exact ⟨by rw [if_neg (by decide), if_pos rfl]; exact congrArg (fun z => some (Value.int z)) (H2 k (by omega)).1.1.symm, _, _, rfl, kx_Rl_skip lr g w i hR⟩
          · exact absurd hw h16
      · refine kx_two (by decide) (Nat.le_of_ble_eq_true rfl) (by decide) (Nat.le_of_ble_eq_true rfl) ?_
        refine kx_st 0 (pc' := 0) (L' := [some (.ref 0), some (.int (nI k)), some (.int 1)]) (st' := []) (h' := kv_wd g w) rfl ?_
        refine kx_st 3 (pc' := 5) (L' := [some (.ref 0), some (.int (nI k)), some (.int 1)]) (st' := [.int (nI k), .ref 1]) (h' := kv_wd g w) rfl ?_
        refine kx_call (z := 11) (as := [.ref 1, .int (nI k)]) (rest := []) (v := some (.int (kx_b (0 ≤ nI k ∧ nI k < nI s)))) (h1 := kv_wd g w) rfl (ev_isPersonS (d := 898) (g := g) (s := s) b1 (nI k)) ?_
        refine kx_st 0 (pc' := 8) (L' := [some (.ref 0), some (.int (nI k)), some (.int 1)]) (st' := [.int (kx_b (0 ≤ nI k ∧ nI k < nI s))]) (h' := kv_wd g w) rfl ?_
        refine kx_be (t := 19) rfl rfl (fun (h8 : ¬ (0 ≤ nI k ∧ nI k < nI s)) => ?_) (fun (h8 : (0 ≤ nI k ∧ nI k < nI s)) => ?_)
        · exact absurd hp h8
        · refine kx_st 0 (pc' := 11) (L' := [some (.ref 0), some (.int (nI k)), some (.int 1)]) (st' := []) (h' := kv_wd g w) rfl ?_
          refine kx_st 2 (pc' := 13) (L' := [some (.ref 0), some (.int (nI k)), some (.int 1)]) (st' := [.int 2, .int 1]) (h' := kv_wd g w) rfl ?_
          refine kx_call (z := 124) (as := [.int 1, .int 2]) (rest := []) (v := some (.int (kx_b (0 ≤ (1 : Int32) ∧ (1 : Int32) ≤ 2)))) (h1 := kv_wd g w) rfl (ev_within (d := 898) 1 2) ?_
          refine kx_st 0 (pc' := 16) (L' := [some (.ref 0), some (.int (nI k)), some (.int 1)]) (st' := [.int (kx_b (0 ≤ (1 : Int32) ∧ (1 : Int32) ≤ 2))]) (h' := kv_wd g w) rfl ?_
          refine kx_bn (t := 25) rfl rfl (fun (h16 : (0 ≤ (1 : Int32) ∧ (1 : Int32) ≤ 2)) => ?_) (fun (h16 : ¬ (0 ≤ (1 : Int32) ∧ (1 : Int32) ≤ 2)) => ?_)
          · refine kx_st 4 (pc' := 31) (L' := [some (.ref 0), some (.int (nI k)), some (.int 1)]) (st' := [.int 1, .int (nI k), .ref 1]) (h' := kv_wd g w) rfl ?_
            refine kx_call (z := 16) (as := [.ref 1, .int (nI k), .int 1]) (rest := []) (v := some (.int (if (1 : Int32) = 2 then kx_b ((0 ≤ nI k ∧ nI k < g 1 0) ∧ ((g 1 1 >>> (nI k &&& 31)) &&& 1) = 1) else if (1 : Int32) = 0 then g 3 k else g 4 k))) (h1 := kv_wd g w) rfl (ev_personHas (d := 896) k (by omega) 1) ?_
            refine kx_st 0 (pc' := 34) (L' := [some (.ref 0), some (.int (nI k)), some (.int 1)]) (st' := [.int (if (1 : Int32) = 2 then kx_b ((0 ≤ nI k ∧ nI k < g 1 0) ∧ ((g 1 1 >>> (nI k &&& 31)) &&& 1) = 1) else if (1 : Int32) = 0 then g 3 k else g 4 k)]) (h' := kv_wd g w) rfl ?_
            refine kx_ret (v := some (.int (if (1 : Int32) = 2 then kx_b ((0 ≤ nI k ∧ nI k < g 1 0) ∧ ((g 1 1 >>> (nI k &&& 31)) &&& 1) = 1) else if (1 : Int32) = 0 then g 3 k else g 4 k))) rfl ?_
            refine ⟨_, _, _, rfl, rfl, ?_⟩
            refine kx_st 0 (pc' := 0) (L' := [some (.ref 65), some (.int (nI k)), some (.int 1)]) (st' := []) (h' := kv_wd g w) rfl ?_
            refine kx_st 2 (pc' := 2) (L' := [some (.ref 65), some (.int (nI k)), some (.int 1)]) (st' := [.int (nI k), .ref 65]) (h' := kv_wd g w) rfl ?_
            refine kx_call (z := 138) (as := [.ref 65, .int (nI k)]) (rest := []) (v := some (.int (kx_b (0 ≤ nI k ∧ nI k < nI s)))) (h1 := kv_wd g w) rfl (ev_mPersonS (d := 897) (g := g) (s := s) b2 a2 (nI k)) ?_
            refine kx_st 0 (pc' := 5) (L' := [some (.ref 65), some (.int (nI k)), some (.int 1)]) (st' := [.int (kx_b (0 ≤ nI k ∧ nI k < nI s))]) (h' := kv_wd g w) rfl ?_
            refine kx_be (t := 34) rfl rfl (fun (m5 : ¬ (0 ≤ nI k ∧ nI k < nI s)) => ?_) (fun (m5 : (0 ≤ nI k ∧ nI k < nI s)) => ?_)
            · exact absurd hp m5
            · refine kx_st 0 (pc' := 8) (L' := [some (.ref 65), some (.int (nI k)), some (.int 1)]) (st' := []) (h' := kv_wd g w) rfl ?_
              refine kx_st 3 (pc' := 11) (L' := [some (.ref 65), some (.int (nI k)), some (.int 1)]) (st' := [.int 2, .int 0, .int 1]) (h' := kv_wd g w) rfl ?_
              refine kx_call (z := 130) (as := [.int 1, .int 0, .int 2]) (rest := []) (v := some (.int (kx_b (0 ≤ (1 : Int32) ∧ (1 : Int32) ≤ 2)))) (h1 := kv_wd g w) rfl (ev_in (d := 898) 1 0 2) ?_
              refine kx_st 0 (pc' := 14) (L' := [some (.ref 65), some (.int (nI k)), some (.int 1)]) (st' := [.int (kx_b (0 ≤ (1 : Int32) ∧ (1 : Int32) ≤ 2))]) (h' := kv_wd g w) rfl ?_
              refine kx_be (t := 34) rfl rfl (fun (m14 : ¬ (0 ≤ (1 : Int32) ∧ (1 : Int32) ≤ 2)) => ?_) (fun (m14 : (0 ≤ (1 : Int32) ∧ (1 : Int32) ≤ 2)) => ?_)
              · exact absurd hw m14
              · refine kx_st 0 (pc' := 17) (L' := [some (.ref 65), some (.int (nI k)), some (.int 1)]) (st' := []) (h' := kv_wd g w) rfl ?_
                refine kx_st 9 (pc' := 30) (L' := [some (.ref 65), some (.int (nI k)), some (.int 1)]) (st' := [.int (14 + (nI k)), .ref 66]) (h' := kv_wd g w) rfl ?_
                refine kx_ia (k := (14 + k)) rfl rfl (by decide) (kx_nadd 14 k) (by omega) (by decide) ?_
                refine kx_st 1 (pc' := 40) (L' := [some (.ref 65), some (.int (nI k)), some (.int 1)]) (st' := [.int (g 66 (14 + k))]) (h' := kv_wd g w) rfl ?_
                refine kx_ret (v := some (.int (g 66 (14 + k)))) rfl ?_
                exact ⟨by rw [if_neg (by decide), if_neg (by decide)]; exact congrArg (fun z => some (Value.int z)) (H2 k (by omega)).1.2.symm, _, _, rfl, kx_Rl_skip lr g w i hR⟩
          · exact absurd hw h16
      · refine kx_two (by decide) (Nat.le_of_ble_eq_true rfl) (by decide) (Nat.le_of_ble_eq_true rfl) ?_
        refine kx_st 0 (pc' := 0) (L' := [some (.ref 0), some (.int (nI k)), some (.int 2)]) (st' := []) (h' := kv_wd g w) rfl ?_
        refine kx_st 3 (pc' := 5) (L' := [some (.ref 0), some (.int (nI k)), some (.int 2)]) (st' := [.int (nI k), .ref 1]) (h' := kv_wd g w) rfl ?_
        refine kx_call (z := 11) (as := [.ref 1, .int (nI k)]) (rest := []) (v := some (.int (kx_b (0 ≤ nI k ∧ nI k < nI s)))) (h1 := kv_wd g w) rfl (ev_isPersonS (d := 898) (g := g) (s := s) b1 (nI k)) ?_
        refine kx_st 0 (pc' := 8) (L' := [some (.ref 0), some (.int (nI k)), some (.int 2)]) (st' := [.int (kx_b (0 ≤ nI k ∧ nI k < nI s))]) (h' := kv_wd g w) rfl ?_
        refine kx_be (t := 19) rfl rfl (fun (h8 : ¬ (0 ≤ nI k ∧ nI k < nI s)) => ?_) (fun (h8 : (0 ≤ nI k ∧ nI k < nI s)) => ?_)
        · exact absurd hp h8
        · refine kx_st 0 (pc' := 11) (L' := [some (.ref 0), some (.int (nI k)), some (.int 2)]) (st' := []) (h' := kv_wd g w) rfl ?_
          refine kx_st 2 (pc' := 13) (L' := [some (.ref 0), some (.int (nI k)), some (.int 2)]) (st' := [.int 2, .int 2]) (h' := kv_wd g w) rfl ?_
          refine kx_call (z := 124) (as := [.int 2, .int 2]) (rest := []) (v := some (.int (kx_b (0 ≤ (2 : Int32) ∧ (2 : Int32) ≤ 2)))) (h1 := kv_wd g w) rfl (ev_within (d := 898) 2 2) ?_
          refine kx_st 0 (pc' := 16) (L' := [some (.ref 0), some (.int (nI k)), some (.int 2)]) (st' := [.int (kx_b (0 ≤ (2 : Int32) ∧ (2 : Int32) ≤ 2))]) (h' := kv_wd g w) rfl ?_
          refine kx_bn (t := 25) rfl rfl (fun (h16 : (0 ≤ (2 : Int32) ∧ (2 : Int32) ≤ 2)) => ?_) (fun (h16 : ¬ (0 ≤ (2 : Int32) ∧ (2 : Int32) ≤ 2)) => ?_)
          · refine kx_st 4 (pc' := 31) (L' := [some (.ref 0), some (.int (nI k)), some (.int 2)]) (st' := [.int 2, .int (nI k), .ref 1]) (h' := kv_wd g w) rfl ?_
            refine kx_call (z := 16) (as := [.ref 1, .int (nI k), .int 2]) (rest := []) (v := some (.int (if (2 : Int32) = 2 then kx_b ((0 ≤ nI k ∧ nI k < g 1 0) ∧ ((g 1 1 >>> (nI k &&& 31)) &&& 1) = 1) else if (2 : Int32) = 0 then g 3 k else g 4 k))) (h1 := kv_wd g w) rfl (ev_personHas (d := 896) k (by omega) 2) ?_
            refine kx_st 0 (pc' := 34) (L' := [some (.ref 0), some (.int (nI k)), some (.int 2)]) (st' := [.int (if (2 : Int32) = 2 then kx_b ((0 ≤ nI k ∧ nI k < g 1 0) ∧ ((g 1 1 >>> (nI k &&& 31)) &&& 1) = 1) else if (2 : Int32) = 0 then g 3 k else g 4 k)]) (h' := kv_wd g w) rfl ?_
            refine kx_ret (v := some (.int (if (2 : Int32) = 2 then kx_b ((0 ≤ nI k ∧ nI k < g 1 0) ∧ ((g 1 1 >>> (nI k &&& 31)) &&& 1) = 1) else if (2 : Int32) = 0 then g 3 k else g 4 k))) rfl ?_
            refine ⟨_, _, _, rfl, rfl, ?_⟩
            refine kx_st 0 (pc' := 0) (L' := [some (.ref 65), some (.int (nI k)), some (.int 2)]) (st' := []) (h' := kv_wd g w) rfl ?_
            refine kx_st 2 (pc' := 2) (L' := [some (.ref 65), some (.int (nI k)), some (.int 2)]) (st' := [.int (nI k), .ref 65]) (h' := kv_wd g w) rfl ?_
            refine kx_call (z := 138) (as := [.ref 65, .int (nI k)]) (rest := []) (v := some (.int (kx_b (0 ≤ nI k ∧ nI k < nI s)))) (h1 := kv_wd g w) rfl (ev_mPersonS (d := 897) (g := g) (s := s) b2 a2 (nI k)) ?_
            refine kx_st 0 (pc' := 5) (L' := [some (.ref 65), some (.int (nI k)), some (.int 2)]) (st' := [.int (kx_b (0 ≤ nI k ∧ nI k < nI s))]) (h' := kv_wd g w) rfl ?_
            refine kx_be (t := 34) rfl rfl (fun (m5 : ¬ (0 ≤ nI k ∧ nI k < nI s)) => ?_) (fun (m5 : (0 ≤ nI k ∧ nI k < nI s)) => ?_)
            · exact absurd hp m5
            · refine kx_st 0 (pc' := 8) (L' := [some (.ref 65), some (.int (nI k)), some (.int 2)]) (st' := []) (h' := kv_wd g w) rfl ?_
              refine kx_st 3 (pc' := 11) (L' := [some (.ref 65), some (.int (nI k)), some (.int 2)]) (st' := [.int 2, .int 0, .int 2]) (h' := kv_wd g w) rfl ?_
              refine kx_call (z := 130) (as := [.int 2, .int 0, .int 2]) (rest := []) (v := some (.int (kx_b (0 ≤ (2 : Int32) ∧ (2 : Int32) ≤ 2)))) (h1 := kv_wd g w) rfl (ev_in (d := 898) 2 0 2) ?_
              refine kx_st 0 (pc' := 14) (L' := [some (.ref 65), some (.int (nI k)), some (.int 2)]) (st' := [.int (kx_b (0 ≤ (2 : Int32) ∧ (2 : Int32) ≤ 2))]) (h' := kv_wd g w) rfl ?_
              refine kx_be (t := 34) rfl rfl (fun (m14 : ¬ (0 ≤ (2 : Int32) ∧ (2 : Int32) ≤ 2)) => ?_) (fun (m14 : (0 ≤ (2 : Int32) ∧ (2 : Int32) ≤ 2)) => ?_)
              · exact absurd hw m14
              · refine kx_st 0 (pc' := 17) (L' := [some (.ref 65), some (.int (nI k)), some (.int 2)]) (st' := []) (h' := kv_wd g w) rfl ?_
                refine kx_st 9 (pc' := 30) (L' := [some (.ref 65), some (.int (nI k)), some (.int 2)]) (st' := [.int (20 + (nI k)), .ref 66]) (h' := kv_wd g w) rfl ?_
                refine kx_ia (k := (20 + k)) rfl rfl (by decide) (kx_nadd 20 k) (by omega) (by decide) ?_
                refine kx_st 1 (pc' := 40) (L' := [some (.ref 65), some (.int (nI k)), some (.int 2)]) (st' := [.int (g 66 (20 + k))]) (h' := kv_wd g w) rfl ?_
                refine kx_ret (v := some (.int (g 66 (20 + k)))) rfl ?_
                exact ⟨by rw [if_pos rfl, b1, c1, kx_b_congr (kx_tv a2 a3 hks)]; exact congrArg (fun z => some (Value.int z)) (c2 k hks), _, _, rfl, kx_Rl_skip lr g w i hR⟩
          · exact absurd hw h16
    · refine kx_two (by decide) (Nat.le_of_ble_eq_true rfl) (by decide) (Nat.le_of_ble_eq_true rfl) ?_
      refine kx_st 0 (pc' := 0) (L' := [some (.ref 0), some (.int (nI k)), some (.int b)]) (st' := []) (h' := kv_wd g w) rfl ?_
      refine kx_st 3 (pc' := 5) (L' := [some (.ref 0), some (.int (nI k)), some (.int b)]) (st' := [.int (nI k), .ref 1]) (h' := kv_wd g w) rfl ?_
      refine kx_call (z := 11) (as := [.ref 1, .int (nI k)]) (rest := []) (v := some (.int (kx_b (0 ≤ nI k ∧ nI k < nI s)))) (h1 := kv_wd g w) rfl (ev_isPersonS (d := 898) (g := g) (s := s) b1 (nI k)) ?_
      refine kx_st 0 (pc' := 8) (L' := [some (.ref 0), some (.int (nI k)), some (.int b)]) (st' := [.int (kx_b (0 ≤ nI k ∧ nI k < nI s))]) (h' := kv_wd g w) rfl ?_
      refine kx_be (t := 19) rfl rfl (fun (h8 : ¬ (0 ≤ nI k ∧ nI k < nI s)) => ?_) (fun (h8 : (0 ≤ nI k ∧ nI k < nI s)) => ?_)
      · refine kx_st 2 (pc' := 21) (L' := [some (.ref 0), some (.int (nI k)), some (.int b)]) (st' := [.int 1, .ref 0]) (h' := kv_wd g w) rfl ?_
        refine kx_call (z := 123) (as := [.ref 0, .int 1]) (rest := []) (v := some (.int (-1000000000 - nI 1))) (h1 := kv_wd (kv_up g 64 1 (g 64 1 + 1)) w) rfl (ev_error (d := 898) 1 (by decide) (by decide)) ?_
        refine kx_st 0 (pc' := 24) (L' := [some (.ref 0), some (.int (nI k)), some (.int b)]) (st' := [.int (-1000000000 - nI 1)]) (h' := kv_wd (kv_up g 64 1 (g 64 1 + 1)) w) rfl ?_
        refine kx_ret (v := some (.int (-1000000000 - nI 1))) rfl ?_
        refine ⟨_, _, _, rfl, rfl, ?_⟩
        refine kx_st 0 (pc' := 0) (L' := [some (.ref 65), some (.int (nI k)), some (.int b)]) (st' := []) (h' := kv_wd (kv_up g 64 1 (g 64 1 + 1)) w) rfl ?_
        refine kx_st 2 (pc' := 2) (L' := [some (.ref 65), some (.int (nI k)), some (.int b)]) (st' := [.int (nI k), .ref 65]) (h' := kv_wd (kv_up g 64 1 (g 64 1 + 1)) w) rfl ?_
        refine kx_call (z := 138) (as := [.ref 65, .int (nI k)]) (rest := []) (v := some (.int (kx_b (0 ≤ nI k ∧ nI k < nI s)))) (h1 := kv_wd (kv_up g 64 1 (g 64 1 + 1)) w) rfl (ev_mPersonS (d := 897) (g := (kv_up g 64 1 (g 64 1 + 1))) (s := s) b2 a2 (nI k)) ?_
        refine kx_st 0 (pc' := 5) (L' := [some (.ref 65), some (.int (nI k)), some (.int b)]) (st' := [.int (kx_b (0 ≤ nI k ∧ nI k < nI s))]) (h' := kv_wd (kv_up g 64 1 (g 64 1 + 1)) w) rfl ?_
        refine kx_be (t := 34) rfl rfl (fun (m5 : ¬ (0 ≤ nI k ∧ nI k < nI s)) => ?_) (fun (m5 : (0 ≤ nI k ∧ nI k < nI s)) => ?_)
        · refine kx_st 2 (pc' := 37) (L' := [some (.ref 65), some (.int (nI k)), some (.int b)]) (st' := [.int (-1000000001), .ref 65]) (h' := kv_wd (kv_up g 64 1 (g 64 1 + 1)) w) rfl ?_
          refine kx_call (z := 131) (as := [.ref 65, .int (-1000000001)]) (rest := []) (v := some (.int (-1000000001))) (h1 := kv_wd (kv_up (kv_up g 64 1 (g 64 1 + 1)) 70 1 ((kv_up g 64 1 (g 64 1 + 1)) 70 1 + 1)) w) rfl (ev_errs (d := 898) (-1000000001) 1 (by decide) (by decide)) ?_
          refine kx_st 0 (pc' := 40) (L' := [some (.ref 65), some (.int (nI k)), some (.int b)]) (st' := [.int (-1000000001)]) (h' := kv_wd (kv_up (kv_up g 64 1 (g 64 1 + 1)) 70 1 ((kv_up g 64 1 (g 64 1 + 1)) 70 1 + 1)) w) rfl ?_
          refine kx_ret (v := some (.int (-1000000001))) rfl ?_
          exact ⟨rfl, _, _, rfl, kx_Rl_e hR⟩
        · exact absurd m5 h8
      · refine kx_st 0 (pc' := 11) (L' := [some (.ref 0), some (.int (nI k)), some (.int b)]) (st' := []) (h' := kv_wd g w) rfl ?_
        refine kx_st 2 (pc' := 13) (L' := [some (.ref 0), some (.int (nI k)), some (.int b)]) (st' := [.int 2, .int b]) (h' := kv_wd g w) rfl ?_
        refine kx_call (z := 124) (as := [.int b, .int 2]) (rest := []) (v := some (.int (kx_b (0 ≤ b ∧ b ≤ 2)))) (h1 := kv_wd g w) rfl (ev_within (d := 898) b 2) ?_
        refine kx_st 0 (pc' := 16) (L' := [some (.ref 0), some (.int (nI k)), some (.int b)]) (st' := [.int (kx_b (0 ≤ b ∧ b ≤ 2))]) (h' := kv_wd g w) rfl ?_
        refine kx_bn (t := 25) rfl rfl (fun (h16 : (0 ≤ b ∧ b ≤ 2)) => ?_) (fun (h16 : ¬ (0 ≤ b ∧ b ≤ 2)) => ?_)
        · exact absurd h16 hw
        · refine kx_st 0 (pc' := 19) (L' := [some (.ref 0), some (.int (nI k)), some (.int b)]) (st' := []) (h' := kv_wd g w) rfl ?_
          refine kx_st 2 (pc' := 21) (L' := [some (.ref 0), some (.int (nI k)), some (.int b)]) (st' := [.int 1, .ref 0]) (h' := kv_wd g w) rfl ?_
          refine kx_call (z := 123) (as := [.ref 0, .int 1]) (rest := []) (v := some (.int (-1000000000 - nI 1))) (h1 := kv_wd (kv_up g 64 1 (g 64 1 + 1)) w) rfl (ev_error (d := 898) 1 (by decide) (by decide)) ?_
          refine kx_st 0 (pc' := 24) (L' := [some (.ref 0), some (.int (nI k)), some (.int b)]) (st' := [.int (-1000000000 - nI 1)]) (h' := kv_wd (kv_up g 64 1 (g 64 1 + 1)) w) rfl ?_
          refine kx_ret (v := some (.int (-1000000000 - nI 1))) rfl ?_
          refine ⟨_, _, _, rfl, rfl, ?_⟩
          refine kx_st 0 (pc' := 0) (L' := [some (.ref 65), some (.int (nI k)), some (.int b)]) (st' := []) (h' := kv_wd (kv_up g 64 1 (g 64 1 + 1)) w) rfl ?_
          refine kx_st 2 (pc' := 2) (L' := [some (.ref 65), some (.int (nI k)), some (.int b)]) (st' := [.int (nI k), .ref 65]) (h' := kv_wd (kv_up g 64 1 (g 64 1 + 1)) w) rfl ?_
          refine kx_call (z := 138) (as := [.ref 65, .int (nI k)]) (rest := []) (v := some (.int (kx_b (0 ≤ nI k ∧ nI k < nI s)))) (h1 := kv_wd (kv_up g 64 1 (g 64 1 + 1)) w) rfl (ev_mPersonS (d := 897) (g := (kv_up g 64 1 (g 64 1 + 1))) (s := s) b2 a2 (nI k)) ?_
          refine kx_st 0 (pc' := 5) (L' := [some (.ref 65), some (.int (nI k)), some (.int b)]) (st' := [.int (kx_b (0 ≤ nI k ∧ nI k < nI s))]) (h' := kv_wd (kv_up g 64 1 (g 64 1 + 1)) w) rfl ?_
          refine kx_be (t := 34) rfl rfl (fun (m5 : ¬ (0 ≤ nI k ∧ nI k < nI s)) => ?_) (fun (m5 : (0 ≤ nI k ∧ nI k < nI s)) => ?_)
          · exact absurd h8 m5
          · refine kx_st 0 (pc' := 8) (L' := [some (.ref 65), some (.int (nI k)), some (.int b)]) (st' := []) (h' := kv_wd (kv_up g 64 1 (g 64 1 + 1)) w) rfl ?_
            refine kx_st 3 (pc' := 11) (L' := [some (.ref 65), some (.int (nI k)), some (.int b)]) (st' := [.int 2, .int 0, .int b]) (h' := kv_wd (kv_up g 64 1 (g 64 1 + 1)) w) rfl ?_
            refine kx_call (z := 130) (as := [.int b, .int 0, .int 2]) (rest := []) (v := some (.int (kx_b (0 ≤ b ∧ b ≤ 2)))) (h1 := kv_wd (kv_up g 64 1 (g 64 1 + 1)) w) rfl (ev_in (d := 898) b 0 2) ?_
            refine kx_st 0 (pc' := 14) (L' := [some (.ref 65), some (.int (nI k)), some (.int b)]) (st' := [.int (kx_b (0 ≤ b ∧ b ≤ 2))]) (h' := kv_wd (kv_up g 64 1 (g 64 1 + 1)) w) rfl ?_
            refine kx_be (t := 34) rfl rfl (fun (m14 : ¬ (0 ≤ b ∧ b ≤ 2)) => ?_) (fun (m14 : (0 ≤ b ∧ b ≤ 2)) => ?_)
            · refine kx_st 2 (pc' := 37) (L' := [some (.ref 65), some (.int (nI k)), some (.int b)]) (st' := [.int (-1000000001), .ref 65]) (h' := kv_wd (kv_up g 64 1 (g 64 1 + 1)) w) rfl ?_
              refine kx_call (z := 131) (as := [.ref 65, .int (-1000000001)]) (rest := []) (v := some (.int (-1000000001))) (h1 := kv_wd (kv_up (kv_up g 64 1 (g 64 1 + 1)) 70 1 ((kv_up g 64 1 (g 64 1 + 1)) 70 1 + 1)) w) rfl (ev_errs (d := 898) (-1000000001) 1 (by decide) (by decide)) ?_
              refine kx_st 0 (pc' := 40) (L' := [some (.ref 65), some (.int (nI k)), some (.int b)]) (st' := [.int (-1000000001)]) (h' := kv_wd (kv_up (kv_up g 64 1 (g 64 1 + 1)) 70 1 ((kv_up g 64 1 (g 64 1 + 1)) 70 1 + 1)) w) rfl ?_
              refine kx_ret (v := some (.int (-1000000001))) rfl ?_
              exact ⟨rfl, _, _, rfl, kx_Rl_e hR⟩
            · exact absurd m14 hw
  · refine kx_two (by decide) (Nat.le_of_ble_eq_true rfl) (by decide) (Nat.le_of_ble_eq_true rfl) ?_
    refine kx_st 0 (pc' := 0) (L' := [some (.ref 0), some (.int a), some (.int b)]) (st' := []) (h' := kv_wd g w) rfl ?_
    refine kx_st 3 (pc' := 5) (L' := [some (.ref 0), some (.int a), some (.int b)]) (st' := [.int a, .ref 1]) (h' := kv_wd g w) rfl ?_
    refine kx_call (z := 11) (as := [.ref 1, .int a]) (rest := []) (v := some (.int (kx_b (0 ≤ a ∧ a < nI s)))) (h1 := kv_wd g w) rfl (ev_isPersonS (d := 898) (g := g) (s := s) b1 a) ?_
    refine kx_st 0 (pc' := 8) (L' := [some (.ref 0), some (.int a), some (.int b)]) (st' := [.int (kx_b (0 ≤ a ∧ a < nI s))]) (h' := kv_wd g w) rfl ?_
    refine kx_be (t := 19) rfl rfl (fun (h8 : ¬ (0 ≤ a ∧ a < nI s)) => ?_) (fun (h8 : (0 ≤ a ∧ a < nI s)) => ?_)
    · refine kx_st 2 (pc' := 21) (L' := [some (.ref 0), some (.int a), some (.int b)]) (st' := [.int 1, .ref 0]) (h' := kv_wd g w) rfl ?_
      refine kx_call (z := 123) (as := [.ref 0, .int 1]) (rest := []) (v := some (.int (-1000000000 - nI 1))) (h1 := kv_wd (kv_up g 64 1 (g 64 1 + 1)) w) rfl (ev_error (d := 898) 1 (by decide) (by decide)) ?_
      refine kx_st 0 (pc' := 24) (L' := [some (.ref 0), some (.int a), some (.int b)]) (st' := [.int (-1000000000 - nI 1)]) (h' := kv_wd (kv_up g 64 1 (g 64 1 + 1)) w) rfl ?_
      refine kx_ret (v := some (.int (-1000000000 - nI 1))) rfl ?_
      refine ⟨_, _, _, rfl, rfl, ?_⟩
      refine kx_st 0 (pc' := 0) (L' := [some (.ref 65), some (.int a), some (.int b)]) (st' := []) (h' := kv_wd (kv_up g 64 1 (g 64 1 + 1)) w) rfl ?_
      refine kx_st 2 (pc' := 2) (L' := [some (.ref 65), some (.int a), some (.int b)]) (st' := [.int a, .ref 65]) (h' := kv_wd (kv_up g 64 1 (g 64 1 + 1)) w) rfl ?_
      refine kx_call (z := 138) (as := [.ref 65, .int a]) (rest := []) (v := some (.int (kx_b (0 ≤ a ∧ a < nI s)))) (h1 := kv_wd (kv_up g 64 1 (g 64 1 + 1)) w) rfl (ev_mPersonS (d := 897) (g := (kv_up g 64 1 (g 64 1 + 1))) (s := s) b2 a2 a) ?_
      refine kx_st 0 (pc' := 5) (L' := [some (.ref 65), some (.int a), some (.int b)]) (st' := [.int (kx_b (0 ≤ a ∧ a < nI s))]) (h' := kv_wd (kv_up g 64 1 (g 64 1 + 1)) w) rfl ?_
      refine kx_be (t := 34) rfl rfl (fun (m5 : ¬ (0 ≤ a ∧ a < nI s)) => ?_) (fun (m5 : (0 ≤ a ∧ a < nI s)) => ?_)
      · refine kx_st 2 (pc' := 37) (L' := [some (.ref 65), some (.int a), some (.int b)]) (st' := [.int (-1000000001), .ref 65]) (h' := kv_wd (kv_up g 64 1 (g 64 1 + 1)) w) rfl ?_
        refine kx_call (z := 131) (as := [.ref 65, .int (-1000000001)]) (rest := []) (v := some (.int (-1000000001))) (h1 := kv_wd (kv_up (kv_up g 64 1 (g 64 1 + 1)) 70 1 ((kv_up g 64 1 (g 64 1 + 1)) 70 1 + 1)) w) rfl (ev_errs (d := 898) (-1000000001) 1 (by decide) (by decide)) ?_
        refine kx_st 0 (pc' := 40) (L' := [some (.ref 65), some (.int a), some (.int b)]) (st' := [.int (-1000000001)]) (h' := kv_wd (kv_up (kv_up g 64 1 (g 64 1 + 1)) 70 1 ((kv_up g 64 1 (g 64 1 + 1)) 70 1 + 1)) w) rfl ?_
        refine kx_ret (v := some (.int (-1000000001))) rfl ?_
        exact ⟨rfl, _, _, rfl, kx_Rl_e hR⟩
      · exact absurd m5 hp
    · exact absurd h8 hp
set_option maxRecDepth 100000 in
theorem pr_hand (a b c : Int32) : kx_ok2 E (kx_Rl lr) 82 144 [.int a, .int b, .int c] := by
  intro g w i hR hi
  have hR0 := hR
  obtain ⟨q, cu, ⟨H1, H2, H3, H4, H5, hz, l0, l1⟩, im, sh, tr, er⟩ := id hR
  obtain ⟨s, t, m, ⟨a1, a2, a3, a4⟩, ⟨b1, b2⟩, ⟨c1, c2⟩, ⟨d1, d2⟩, hk⟩ := id H1
  by_cases hp : 0 ≤ a ∧ a < nI s
  · obtain ⟨k, hks, rfl⟩ := kx_nIlt hp.1 hp.2 (by omega)
    by_cases hw : 0 ≤ b ∧ b ≤ 2
    · rcases kx_b2 hw with rfl | rfl | rfl
      · by_cases hv : 0 ≤ c ∧ c ≤ 99
        · obtain ⟨x, hx, rfl⟩ := kx_nIof (n := 99) hv.1 hv.2 (by omega)
          refine kx_two (by decide) (Nat.le_of_ble_eq_true rfl) (by decide) (Nat.le_of_ble_eq_true rfl) ?_
          refine kx_st 0 (pc' := 0) (L' := [some (.ref 0), some (.int (nI k)), some (.int 0), some (.int (nI x)), none, none]) (st' := []) (h' := kv_wd g w) rfl ?_
          refine kx_st 2 (pc' := 2) (L' := [some (.ref 0), some (.int (nI k)), some (.int 0), some (.int (nI x)), none, none]) (st' := [.int 2, .int 0]) (h' := kv_wd g w) rfl ?_
          refine kx_st 1 (pc' := 9) (L' := [some (.ref 0), some (.int (nI k)), some (.int 0), some (.int (nI x)), none, none]) (st' := []) (h' := kv_wd g w) rfl ?_
          refine kx_st 5 (pc' := 18) (L' := [some (.ref 0), some (.int (nI k)), some (.int 0), some (.int (nI x)), some (.int 99), none]) (st' := [.int (nI k), .ref 1]) (h' := kv_wd g w) rfl ?_
          refine kx_call (z := 11) (as := [.ref 1, .int (nI k)]) (rest := []) (v := some (.int (kx_b (0 ≤ nI k ∧ nI k < nI s)))) (h1 := kv_wd g w) rfl (ev_isPersonS (d := 898) (g := g) (s := s) b1 (nI k)) ?_
          refine kx_st 0 (pc' := 21) (L' := [some (.ref 0), some (.int (nI k)), some (.int 0), some (.int (nI x)), some (.int 99), none]) (st' := [.int (kx_b (0 ≤ nI k ∧ nI k < nI s))]) (h' := kv_wd g w) rfl ?_
          refine kx_be (t := 41) rfl rfl (fun (h21 : ¬ (0 ≤ nI k ∧ nI k < nI s)) => ?_) (fun (h21 : (0 ≤ nI k ∧ nI k < nI s)) => ?_)
          · exact absurd hp h21
          · refine kx_st 0 (pc' := 24) (L' := [some (.ref 0), some (.int (nI k)), some (.int 0), some (.int (nI x)), some (.int 99), none]) (st' := []) (h' := kv_wd g w) rfl ?_
            refine kx_st 2 (pc' := 26) (L' := [some (.ref 0), some (.int (nI k)), some (.int 0), some (.int (nI x)), some (.int 99), none]) (st' := [.int 2, .int 0]) (h' := kv_wd g w) rfl ?_
            refine kx_call (z := 124) (as := [.int 0, .int 2]) (rest := []) (v := some (.int (kx_b (0 ≤ (0 : Int32) ∧ (0 : Int32) ≤ 2)))) (h1 := kv_wd g w) rfl (ev_within (d := 898) 0 2) ?_
            refine kx_st 0 (pc' := 29) (L' := [some (.ref 0), some (.int (nI k)), some (.int 0), some (.int (nI x)), some (.int 99), none]) (st' := [.int (kx_b (0 ≤ (0 : Int32) ∧ (0 : Int32) ≤ 2))]) (h' := kv_wd g w) rfl ?_
            refine kx_be (t := 41) rfl rfl (fun (h29 : ¬ (0 ≤ (0 : Int32) ∧ (0 : Int32) ≤ 2)) => ?_) (fun (h29 : (0 ≤ (0 : Int32) ∧ (0 : Int32) ≤ 2)) => ?_)
            · exact absurd hw h29
            · refine kx_st 0 (pc' := 32) (L' := [some (.ref 0), some (.int (nI k)), some (.int 0), some (.int (nI x)), some (.int 99), none]) (st' := []) (h' := kv_wd g w) rfl ?_
              refine kx_st 2 (pc' := 35) (L' := [some (.ref 0), some (.int (nI k)), some (.int 0), some (.int (nI x)), some (.int 99), none]) (st' := [.int 99, .int (nI x)]) (h' := kv_wd g w) rfl ?_
              refine kx_call (z := 124) (as := [.int (nI x), .int 99]) (rest := []) (v := some (.int (kx_b (0 ≤ nI x ∧ nI x ≤ 99)))) (h1 := kv_wd g w) rfl (ev_within (d := 898) (nI x) 99) ?_
              refine kx_st 0 (pc' := 38) (L' := [some (.ref 0), some (.int (nI k)), some (.int 0), some (.int (nI x)), some (.int 99), none]) (st' := [.int (kx_b (0 ≤ nI x ∧ nI x ≤ 99))]) (h' := kv_wd g w) rfl ?_
              refine kx_bn (t := 47) rfl rfl (fun (h38 : (0 ≤ nI x ∧ nI x ≤ 99)) => ?_) (fun (h38 : ¬ (0 ≤ nI x ∧ nI x ≤ 99)) => ?_)
              · refine kx_st 4 (pc' := 53) (L' := [some (.ref 0), some (.int (nI k)), some (.int 0), some (.int (nI x)), some (.int 99), none]) (st' := [.int 0, .int (nI k), .ref 1]) (h' := kv_wd g w) rfl ?_
                refine kx_call (z := 16) (as := [.ref 1, .int (nI k), .int 0]) (rest := []) (v := some (.int (if (0 : Int32) = 2 then kx_b ((0 ≤ nI k ∧ nI k < g 1 0) ∧ ((g 1 1 >>> (nI k &&& 31)) &&& 1) = 1) else if (0 : Int32) = 0 then g 3 k else g 4 k))) (h1 := kv_wd g w) rfl (ev_personHas (d := 896) k (by omega) 0) ?_
                refine kx_st 0 (pc' := 56) (L' := [some (.ref 0), some (.int (nI k)), some (.int 0), some (.int (nI x)), some (.int 99), none]) (st' := [.int (if (0 : Int32) = 2 then kx_b ((0 ≤ nI k ∧ nI k < g 1 0) ∧ ((g 1 1 >>> (nI k &&& 31)) &&& 1) = 1) else if (0 : Int32) = 0 then g 3 k else g 4 k)]) (h' := kv_wd g w) rfl ?_
                refine kx_st 3 (pc' := 60) (L' := [some (.ref 0), some (.int (nI k)), some (.int 0), some (.int (nI x)), some (.int 99), some (.int (if (0 : Int32) = 2 then kx_b ((0 ≤ nI k ∧ nI k < g 1 0) ∧ ((g 1 1 >>> (nI k &&& 31)) &&& 1) = 1) else if (0 : Int32) = 0 then g 3 k else g 4 k))]) (st' := [.int 2, .int 0]) (h' := kv_wd g w) rfl ?_
                refine kx_st 1 (pc' := 84) (L' := [some (.ref 0), some (.int (nI k)), some (.int 0), some (.int (nI x)), some (.int 99), some (.int (if (0 : Int32) = 2 then kx_b ((0 ≤ nI k ∧ nI k < g 1 0) ∧ ((g 1 1 >>> (nI k &&& 31)) &&& 1) = 1) else if (0 : Int32) = 0 then g 3 k else g 4 k))]) (st' := []) (h' := kv_wd g w) rfl ?_
                refine kx_st 6 (pc' := 94) (L' := [some (.ref 0), some (.int (nI k)), some (.int 0), some (.int (nI x)), some (.int 99), some (.int (if (0 : Int32) = 2 then kx_b ((0 ≤ nI k ∧ nI k < g 1 0) ∧ ((g 1 1 >>> (nI k &&& 31)) &&& 1) = 1) else if (0 : Int32) = 0 then g 3 k else g 4 k))]) (st' := [.int (nI x), .int 0, .int (nI k), .ref 2]) (h' := kv_wd g w) rfl ?_
                refine kx_call (z := 3) (as := [.ref 2, .int (nI k), .int 0, .int (nI x)]) (rest := []) (v := none) (h1 := kv_wd (kv_up g (2 + 1) k (nI x)) w) rfl (ev_setHand_l (d := 898) kv_hd2 k (by omega) (nI x)) ?_
                refine kx_st 0 (pc' := 97) (L' := [some (.ref 0), some (.int (nI k)), some (.int 0), some (.int (nI x)), some (.int 99), some (.int (if (0 : Int32) = 2 then kx_b ((0 ≤ nI k ∧ nI k < g 1 0) ∧ ((g 1 1 >>> (nI k &&& 31)) &&& 1) = 1) else if (0 : Int32) = 0 then g 3 k else g 4 k))]) (st' := []) (h' := kv_wd (kv_up g (2 + 1) k (nI x)) w) rfl ?_
                refine kx_st 1 (pc' := 99) (L' := [some (.ref 0), some (.int (nI k)), some (.int 0), some (.int (nI x)), some (.int 99), some (.int (if (0 : Int32) = 2 then kx_b ((0 ≤ nI k ∧ nI k < g 1 0) ∧ ((g 1 1 >>> (nI k &&& 31)) &&& 1) = 1) else if (0 : Int32) = 0 then g 3 k else g 4 k))]) (st' := [.int (if (0 : Int32) = 2 then kx_b ((0 ≤ nI k ∧ nI k < g 1 0) ∧ ((g 1 1 >>> (nI k &&& 31)) &&& 1) = 1) else if (0 : Int32) = 0 then g 3 k else g 4 k)]) (h' := kv_wd (kv_up g (2 + 1) k (nI x)) w) rfl ?_
                refine kx_ret (v := some (.int (if (0 : Int32) = 2 then kx_b ((0 ≤ nI k ∧ nI k < g 1 0) ∧ ((g 1 1 >>> (nI k &&& 31)) &&& 1) = 1) else if (0 : Int32) = 0 then g 3 k else g 4 k))) rfl ?_
                refine ⟨_, _, _, rfl, rfl, ?_⟩
                refine kx_st 0 (pc' := 0) (L' := [some (.ref 65), some (.int (nI k)), some (.int 0), some (.int (nI x)), none]) (st' := []) (h' := kv_wd (kv_up g (2 + 1) k (nI x)) w) rfl ?_
                refine kx_st 2 (pc' := 2) (L' := [some (.ref 65), some (.int (nI k)), some (.int 0), some (.int (nI x)), none]) (st' := [.int 2, .int 0]) (h' := kv_wd (kv_up g (2 + 1) k (nI x)) w) rfl ?_
                refine kx_st 1 (pc' := 14) (L' := [some (.ref 65), some (.int (nI k)), some (.int 0), some (.int (nI x)), none]) (st' := []) (h' := kv_wd (kv_up g (2 + 1) k (nI x)) w) rfl ?_
                refine kx_st 3 (pc' := 17) (L' := [some (.ref 65), some (.int (nI k)), some (.int 0), some (.int (nI x)), none]) (st' := [.int 1, .int 0, .int 0]) (h' := kv_wd (kv_up g (2 + 1) k (nI x)) w) rfl ?_
                refine kx_call (z := 130) (as := [.int 0, .int 0, .int 1]) (rest := []) (v := some (.int (kx_b (0 ≤ (0 : Int32) ∧ (0 : Int32) ≤ 1)))) (h1 := kv_wd (kv_up g (2 + 1) k (nI x)) w) rfl (ev_in (d := 898) 0 0 1) ?_
                refine kx_st 0 (pc' := 20) (L' := [some (.ref 65), some (.int (nI k)), some (.int 0), some (.int (nI x)), none]) (st' := [.int (kx_b (0 ≤ (0 : Int32) ∧ (0 : Int32) ≤ 1))]) (h' := kv_wd (kv_up g (2 + 1) k (nI x)) w) rfl ?_
                refine kx_be (t := 37) rfl rfl (fun (m20 : ¬ (0 ≤ (0 : Int32) ∧ (0 : Int32) ≤ 1)) => ?_) (fun (m20 : (0 ≤ (0 : Int32) ∧ (0 : Int32) ≤ 1)) => ?_)
                · exact absurd (by decide) m20
                · refine kx_st 0 (pc' := 23) (L' := [some (.ref 65), some (.int (nI k)), some (.int 0), some (.int (nI x)), none]) (st' := []) (h' := kv_wd (kv_up g (2 + 1) k (nI x)) w) rfl ?_
                  refine kx_st 3 (pc' := 27) (L' := [some (.ref 65), some (.int (nI k)), some (.int 0), some (.int (nI x)), none]) (st' := [.int 99, .int 0, .int (nI x)]) (h' := kv_wd (kv_up g (2 + 1) k (nI x)) w) rfl ?_
                  refine kx_call (z := 130) (as := [.int (nI x), .int 0, .int 99]) (rest := []) (v := some (.int (kx_b (0 ≤ nI x ∧ nI x ≤ 99)))) (h1 := kv_wd (kv_up g (2 + 1) k (nI x)) w) rfl (ev_in (d := 898) (nI x) 0 99) ?_
                  refine kx_st 0 (pc' := 30) (L' := [some (.ref 65), some (.int (nI k)), some (.int 0), some (.int (nI x)), none]) (st' := [.int (kx_b (0 ≤ nI x ∧ nI x ≤ 99))]) (h' := kv_wd (kv_up g (2 + 1) k (nI x)) w) rfl ?_
                  refine kx_be (t := 37) rfl rfl (fun (m30 : ¬ (0 ≤ nI x ∧ nI x ≤ 99)) => ?_) (fun (m30 : (0 ≤ nI x ∧ nI x ≤ 99)) => ?_)
                  · exact absurd hv m30
                  · refine kx_st 0 (pc' := 33) (L' := [some (.ref 65), some (.int (nI k)), some (.int 0), some (.int (nI x)), none]) (st' := []) (h' := kv_wd (kv_up g (2 + 1) k (nI x)) w) rfl ?_
                    refine kx_st 5 (pc' := 42) (L' := [some (.ref 65), some (.int (nI k)), some (.int 0), some (.int (nI x)), some (.int 1)]) (st' := [.int (nI k), .ref 65]) (h' := kv_wd (kv_up g (2 + 1) k (nI x)) w) rfl ?_
                    refine kx_call (z := 138) (as := [.ref 65, .int (nI k)]) (rest := []) (v := some (.int (kx_b (0 ≤ nI k ∧ nI k < nI s)))) (h1 := kv_wd (kv_up g (2 + 1) k (nI x)) w) rfl (ev_mPersonS (d := 897) (g := (kv_up g (2 + 1) k (nI x))) (s := s) b2 a2 (nI k)) ?_
                    refine kx_st 0 (pc' := 45) (L' := [some (.ref 65), some (.int (nI k)), some (.int 0), some (.int (nI x)), some (.int 1)]) (st' := [.int (kx_b (0 ≤ nI k ∧ nI k < nI s))]) (h' := kv_wd (kv_up g (2 + 1) k (nI x)) w) rfl ?_
                    refine kx_be (t := 70) rfl rfl (fun (m45 : ¬ (0 ≤ nI k ∧ nI k < nI s)) => ?_) (fun (m45 : (0 ≤ nI k ∧ nI k < nI s)) => ?_)
                    · exact absurd hp m45
                    · refine kx_st 0 (pc' := 48) (L' := [some (.ref 65), some (.int (nI k)), some (.int 0), some (.int (nI x)), some (.int 1)]) (st' := []) (h' := kv_wd (kv_up g (2 + 1) k (nI x)) w) rfl ?_
                      refine kx_st 1 (pc' := 50) (L' := [some (.ref 65), some (.int (nI k)), some (.int 0), some (.int (nI x)), some (.int 1)]) (st' := [.int 1]) (h' := kv_wd (kv_up g (2 + 1) k (nI x)) w) rfl ?_
                      refine kx_st 1 (pc' := 53) (L' := [some (.ref 65), some (.int (nI k)), some (.int 0), some (.int (nI x)), some (.int 1)]) (st' := []) (h' := kv_wd (kv_up g (2 + 1) k (nI x)) w) rfl ?_
                      refine kx_st 9 (pc' := 64) (L' := [some (.ref 65), some (.int (nI k)), some (.int 0), some (.int (nI x)), some (.int 1)]) (st' := [.int (nI x), .int (8 + (nI k)), .ref 65]) (h' := kv_wd (kv_up g (2 + 1) k (nI x)) w) rfl ?_
                      refine kx_call (z := 142) (as := [.ref 65, .int (8 + (nI k)), .int (nI x)]) (rest := []) (v := some (.int ((kv_up g (2 + 1) k (nI x)) 66 (8 + k)))) (h1 := kv_wd (kv_up (kv_up g (2 + 1) k (nI x)) 66 (8 + k) (nI x)) w) rfl (by rw [show (8 : Int32) + nI k = nI (8 + k) from kx_nadd 8 k]; exact ev_becomes (d := 898) (8 + k) (by omega) (nI x)) ?_
                      refine kx_st 0 (pc' := 67) (L' := [some (.ref 65), some (.int (nI k)), some (.int 0), some (.int (nI x)), some (.int 1)]) (st' := [.int ((kv_up g (2 + 1) k (nI x)) 66 (8 + k))]) (h' := kv_wd (kv_up (kv_up g (2 + 1) k (nI x)) 66 (8 + k) (nI x)) w) rfl ?_
                      refine kx_st 1 (pc' := 76) (L' := [some (.ref 65), some (.int (nI k)), some (.int 0), some (.int (nI x)), some (.int 1)]) (st' := [.int ((kv_up g (2 + 1) k (nI x)) 66 (8 + k))]) (h' := kv_wd (kv_up (kv_up g (2 + 1) k (nI x)) 66 (8 + k) (nI x)) w) rfl ?_
                      refine kx_ret (v := some (.int ((kv_up g (2 + 1) k (nI x)) 66 (8 + k)))) rfl ?_
                      exact ⟨by rw [if_neg (by decide), if_pos rfl]; exact congrArg (fun z => some (Value.int z)) (H2 k (by omega)).1.1.symm, _, _, rfl, kx_Rl_hn hR q (fun b hb hb2 => by repeat rw [kv_up_ne (by omega)]) (fun z hz => rfl) ⟨rfl, rfl⟩ (kx_hn_mk ⟨H1, H2, H3, H4, H5, hz, l0, l1⟩ (kx_H1_cg rfl rfl rfl (fun j hj => kx_upn (r := g 66) (by omega)) (fun _ _ _ _ => rfl) H1) (kx_H2_l (by omega) hx H2) (kx_H3_cg rfl (kx_upn (r := g 66) (by omega)) H3) (kx_H4_cg rfl (fun _ _ => rfl) (fun j hj => kx_upn (r := g 66) (by omega)) H4) (kx_H5_cg rfl (fun _ _ => rfl) (fun j hj => kx_upn (r := g 66) (by omega)) H5) (hz.trans (kx_upn (r := g 66) (by omega)).symm) ⟨rfl, rfl, rfl, rfl⟩ (fun j hj => kx_upn (r := g 66) (by omega)))⟩
              · exact absurd hv h38
        · refine kx_two (by decide) (Nat.le_of_ble_eq_true rfl) (by decide) (Nat.le_of_ble_eq_true rfl) ?_
          refine kx_st 0 (pc' := 0) (L' := [some (.ref 0), some (.int (nI k)), some (.int 0), some (.int c), none, none]) (st' := []) (h' := kv_wd g w) rfl ?_
          refine kx_st 2 (pc' := 2) (L' := [some (.ref 0), some (.int (nI k)), some (.int 0), some (.int c), none, none]) (st' := [.int 2, .int 0]) (h' := kv_wd g w) rfl ?_
          refine kx_st 1 (pc' := 9) (L' := [some (.ref 0), some (.int (nI k)), some (.int 0), some (.int c), none, none]) (st' := []) (h' := kv_wd g w) rfl ?_
          refine kx_st 5 (pc' := 18) (L' := [some (.ref 0), some (.int (nI k)), some (.int 0), some (.int c), some (.int 99), none]) (st' := [.int (nI k), .ref 1]) (h' := kv_wd g w) rfl ?_
          refine kx_call (z := 11) (as := [.ref 1, .int (nI k)]) (rest := []) (v := some (.int (kx_b (0 ≤ nI k ∧ nI k < nI s)))) (h1 := kv_wd g w) rfl (ev_isPersonS (d := 898) (g := g) (s := s) b1 (nI k)) ?_
          refine kx_st 0 (pc' := 21) (L' := [some (.ref 0), some (.int (nI k)), some (.int 0), some (.int c), some (.int 99), none]) (st' := [.int (kx_b (0 ≤ nI k ∧ nI k < nI s))]) (h' := kv_wd g w) rfl ?_
          refine kx_be (t := 41) rfl rfl (fun (h21 : ¬ (0 ≤ nI k ∧ nI k < nI s)) => ?_) (fun (h21 : (0 ≤ nI k ∧ nI k < nI s)) => ?_)
          · refine kx_st 2 (pc' := 43) (L' := [some (.ref 0), some (.int (nI k)), some (.int 0), some (.int c), some (.int 99), none]) (st' := [.int 1, .ref 0]) (h' := kv_wd g w) rfl ?_
            refine kx_call (z := 123) (as := [.ref 0, .int 1]) (rest := []) (v := some (.int (-1000000000 - nI 1))) (h1 := kv_wd (kv_up g 64 1 (g 64 1 + 1)) w) rfl (ev_error (d := 898) 1 (by decide) (by decide)) ?_
            refine kx_st 0 (pc' := 46) (L' := [some (.ref 0), some (.int (nI k)), some (.int 0), some (.int c), some (.int 99), none]) (st' := [.int (-1000000000 - nI 1)]) (h' := kv_wd (kv_up g 64 1 (g 64 1 + 1)) w) rfl ?_
            refine kx_ret (v := some (.int (-1000000000 - nI 1))) rfl ?_
            refine ⟨_, _, _, rfl, rfl, ?_⟩
            refine kx_st 0 (pc' := 0) (L' := [some (.ref 65), some (.int (nI k)), some (.int 0), some (.int c), none]) (st' := []) (h' := kv_wd (kv_up g 64 1 (g 64 1 + 1)) w) rfl ?_
            refine kx_st 2 (pc' := 2) (L' := [some (.ref 65), some (.int (nI k)), some (.int 0), some (.int c), none]) (st' := [.int 2, .int 0]) (h' := kv_wd (kv_up g 64 1 (g 64 1 + 1)) w) rfl ?_
            refine kx_st 1 (pc' := 14) (L' := [some (.ref 65), some (.int (nI k)), some (.int 0), some (.int c), none]) (st' := []) (h' := kv_wd (kv_up g 64 1 (g 64 1 + 1)) w) rfl ?_
            refine kx_st 3 (pc' := 17) (L' := [some (.ref 65), some (.int (nI k)), some (.int 0), some (.int c), none]) (st' := [.int 1, .int 0, .int 0]) (h' := kv_wd (kv_up g 64 1 (g 64 1 + 1)) w) rfl ?_
            refine kx_call (z := 130) (as := [.int 0, .int 0, .int 1]) (rest := []) (v := some (.int (kx_b (0 ≤ (0 : Int32) ∧ (0 : Int32) ≤ 1)))) (h1 := kv_wd (kv_up g 64 1 (g 64 1 + 1)) w) rfl (ev_in (d := 898) 0 0 1) ?_
            refine kx_st 0 (pc' := 20) (L' := [some (.ref 65), some (.int (nI k)), some (.int 0), some (.int c), none]) (st' := [.int (kx_b (0 ≤ (0 : Int32) ∧ (0 : Int32) ≤ 1))]) (h' := kv_wd (kv_up g 64 1 (g 64 1 + 1)) w) rfl ?_
            refine kx_be (t := 37) rfl rfl (fun (m20 : ¬ (0 ≤ (0 : Int32) ∧ (0 : Int32) ≤ 1)) => ?_) (fun (m20 : (0 ≤ (0 : Int32) ∧ (0 : Int32) ≤ 1)) => ?_)
            · exact absurd (by decide) m20
            · refine kx_st 0 (pc' := 23) (L' := [some (.ref 65), some (.int (nI k)), some (.int 0), some (.int c), none]) (st' := []) (h' := kv_wd (kv_up g 64 1 (g 64 1 + 1)) w) rfl ?_
              refine kx_st 3 (pc' := 27) (L' := [some (.ref 65), some (.int (nI k)), some (.int 0), some (.int c), none]) (st' := [.int 99, .int 0, .int c]) (h' := kv_wd (kv_up g 64 1 (g 64 1 + 1)) w) rfl ?_
              refine kx_call (z := 130) (as := [.int c, .int 0, .int 99]) (rest := []) (v := some (.int (kx_b (0 ≤ c ∧ c ≤ 99)))) (h1 := kv_wd (kv_up g 64 1 (g 64 1 + 1)) w) rfl (ev_in (d := 898) c 0 99) ?_
              refine kx_st 0 (pc' := 30) (L' := [some (.ref 65), some (.int (nI k)), some (.int 0), some (.int c), none]) (st' := [.int (kx_b (0 ≤ c ∧ c ≤ 99))]) (h' := kv_wd (kv_up g 64 1 (g 64 1 + 1)) w) rfl ?_
              refine kx_be (t := 37) rfl rfl (fun (m30 : ¬ (0 ≤ c ∧ c ≤ 99)) => ?_) (fun (m30 : (0 ≤ c ∧ c ≤ 99)) => ?_)
              · refine kx_st 4 (pc' := 42) (L' := [some (.ref 65), some (.int (nI k)), some (.int 0), some (.int c), some (.int 0)]) (st' := [.int (nI k), .ref 65]) (h' := kv_wd (kv_up g 64 1 (g 64 1 + 1)) w) rfl ?_
                refine kx_call (z := 138) (as := [.ref 65, .int (nI k)]) (rest := []) (v := some (.int (kx_b (0 ≤ nI k ∧ nI k < nI s)))) (h1 := kv_wd (kv_up g 64 1 (g 64 1 + 1)) w) rfl (ev_mPersonS (d := 897) (g := (kv_up g 64 1 (g 64 1 + 1))) (s := s) b2 a2 (nI k)) ?_
                refine kx_st 0 (pc' := 45) (L' := [some (.ref 65), some (.int (nI k)), some (.int 0), some (.int c), some (.int 0)]) (st' := [.int (kx_b (0 ≤ nI k ∧ nI k < nI s))]) (h' := kv_wd (kv_up g 64 1 (g 64 1 + 1)) w) rfl ?_
                refine kx_be (t := 70) rfl rfl (fun (m45 : ¬ (0 ≤ nI k ∧ nI k < nI s)) => ?_) (fun (m45 : (0 ≤ nI k ∧ nI k < nI s)) => ?_)
                · exact absurd hp m45
                · exact absurd m45 h21
              · exact absurd m30 hv
          · refine kx_st 0 (pc' := 24) (L' := [some (.ref 0), some (.int (nI k)), some (.int 0), some (.int c), some (.int 99), none]) (st' := []) (h' := kv_wd g w) rfl ?_
            refine kx_st 2 (pc' := 26) (L' := [some (.ref 0), some (.int (nI k)), some (.int 0), some (.int c), some (.int 99), none]) (st' := [.int 2, .int 0]) (h' := kv_wd g w) rfl ?_
            refine kx_call (z := 124) (as := [.int 0, .int 2]) (rest := []) (v := some (.int (kx_b (0 ≤ (0 : Int32) ∧ (0 : Int32) ≤ 2)))) (h1 := kv_wd g w) rfl (ev_within (d := 898) 0 2) ?_
            refine kx_st 0 (pc' := 29) (L' := [some (.ref 0), some (.int (nI k)), some (.int 0), some (.int c), some (.int 99), none]) (st' := [.int (kx_b (0 ≤ (0 : Int32) ∧ (0 : Int32) ≤ 2))]) (h' := kv_wd g w) rfl ?_
            refine kx_be (t := 41) rfl rfl (fun (h29 : ¬ (0 ≤ (0 : Int32) ∧ (0 : Int32) ≤ 2)) => ?_) (fun (h29 : (0 ≤ (0 : Int32) ∧ (0 : Int32) ≤ 2)) => ?_)
            · refine kx_st 2 (pc' := 43) (L' := [some (.ref 0), some (.int (nI k)), some (.int 0), some (.int c), some (.int 99), none]) (st' := [.int 1, .ref 0]) (h' := kv_wd g w) rfl ?_
              refine kx_call (z := 123) (as := [.ref 0, .int 1]) (rest := []) (v := some (.int (-1000000000 - nI 1))) (h1 := kv_wd (kv_up g 64 1 (g 64 1 + 1)) w) rfl (ev_error (d := 898) 1 (by decide) (by decide)) ?_
              refine kx_st 0 (pc' := 46) (L' := [some (.ref 0), some (.int (nI k)), some (.int 0), some (.int c), some (.int 99), none]) (st' := [.int (-1000000000 - nI 1)]) (h' := kv_wd (kv_up g 64 1 (g 64 1 + 1)) w) rfl ?_
              refine kx_ret (v := some (.int (-1000000000 - nI 1))) rfl ?_
              refine ⟨_, _, _, rfl, rfl, ?_⟩
              refine kx_st 0 (pc' := 0) (L' := [some (.ref 65), some (.int (nI k)), some (.int 0), some (.int c), none]) (st' := []) (h' := kv_wd (kv_up g 64 1 (g 64 1 + 1)) w) rfl ?_
              refine kx_st 2 (pc' := 2) (L' := [some (.ref 65), some (.int (nI k)), some (.int 0), some (.int c), none]) (st' := [.int 2, .int 0]) (h' := kv_wd (kv_up g 64 1 (g 64 1 + 1)) w) rfl ?_
              refine kx_st 1 (pc' := 14) (L' := [some (.ref 65), some (.int (nI k)), some (.int 0), some (.int c), none]) (st' := []) (h' := kv_wd (kv_up g 64 1 (g 64 1 + 1)) w) rfl ?_
              refine kx_st 3 (pc' := 17) (L' := [some (.ref 65), some (.int (nI k)), some (.int 0), some (.int c), none]) (st' := [.int 1, .int 0, .int 0]) (h' := kv_wd (kv_up g 64 1 (g 64 1 + 1)) w) rfl ?_
              refine kx_call (z := 130) (as := [.int 0, .int 0, .int 1]) (rest := []) (v := some (.int (kx_b (0 ≤ (0 : Int32) ∧ (0 : Int32) ≤ 1)))) (h1 := kv_wd (kv_up g 64 1 (g 64 1 + 1)) w) rfl (ev_in (d := 898) 0 0 1) ?_
              refine kx_st 0 (pc' := 20) (L' := [some (.ref 65), some (.int (nI k)), some (.int 0), some (.int c), none]) (st' := [.int (kx_b (0 ≤ (0 : Int32) ∧ (0 : Int32) ≤ 1))]) (h' := kv_wd (kv_up g 64 1 (g 64 1 + 1)) w) rfl ?_
              refine kx_be (t := 37) rfl rfl (fun (m20 : ¬ (0 ≤ (0 : Int32) ∧ (0 : Int32) ≤ 1)) => ?_) (fun (m20 : (0 ≤ (0 : Int32) ∧ (0 : Int32) ≤ 1)) => ?_)
              · exact absurd (by decide) m20
              · refine kx_st 0 (pc' := 23) (L' := [some (.ref 65), some (.int (nI k)), some (.int 0), some (.int c), none]) (st' := []) (h' := kv_wd (kv_up g 64 1 (g 64 1 + 1)) w) rfl ?_
                refine kx_st 3 (pc' := 27) (L' := [some (.ref 65), some (.int (nI k)), some (.int 0), some (.int c), none]) (st' := [.int 99, .int 0, .int c]) (h' := kv_wd (kv_up g 64 1 (g 64 1 + 1)) w) rfl ?_
                refine kx_call (z := 130) (as := [.int c, .int 0, .int 99]) (rest := []) (v := some (.int (kx_b (0 ≤ c ∧ c ≤ 99)))) (h1 := kv_wd (kv_up g 64 1 (g 64 1 + 1)) w) rfl (ev_in (d := 898) c 0 99) ?_
                refine kx_st 0 (pc' := 30) (L' := [some (.ref 65), some (.int (nI k)), some (.int 0), some (.int c), none]) (st' := [.int (kx_b (0 ≤ c ∧ c ≤ 99))]) (h' := kv_wd (kv_up g 64 1 (g 64 1 + 1)) w) rfl ?_
                refine kx_be (t := 37) rfl rfl (fun (m30 : ¬ (0 ≤ c ∧ c ≤ 99)) => ?_) (fun (m30 : (0 ≤ c ∧ c ≤ 99)) => ?_)
                · refine kx_st 4 (pc' := 42) (L' := [some (.ref 65), some (.int (nI k)), some (.int 0), some (.int c), some (.int 0)]) (st' := [.int (nI k), .ref 65]) (h' := kv_wd (kv_up g 64 1 (g 64 1 + 1)) w) rfl ?_
                  refine kx_call (z := 138) (as := [.ref 65, .int (nI k)]) (rest := []) (v := some (.int (kx_b (0 ≤ nI k ∧ nI k < nI s)))) (h1 := kv_wd (kv_up g 64 1 (g 64 1 + 1)) w) rfl (ev_mPersonS (d := 897) (g := (kv_up g 64 1 (g 64 1 + 1))) (s := s) b2 a2 (nI k)) ?_
                  refine kx_st 0 (pc' := 45) (L' := [some (.ref 65), some (.int (nI k)), some (.int 0), some (.int c), some (.int 0)]) (st' := [.int (kx_b (0 ≤ nI k ∧ nI k < nI s))]) (h' := kv_wd (kv_up g 64 1 (g 64 1 + 1)) w) rfl ?_
                  refine kx_be (t := 70) rfl rfl (fun (m45 : ¬ (0 ≤ nI k ∧ nI k < nI s)) => ?_) (fun (m45 : (0 ≤ nI k ∧ nI k < nI s)) => ?_)
                  · exact absurd hp m45
                  · refine kx_st 0 (pc' := 48) (L' := [some (.ref 65), some (.int (nI k)), some (.int 0), some (.int c), some (.int 0)]) (st' := []) (h' := kv_wd (kv_up g 64 1 (g 64 1 + 1)) w) rfl ?_
                    refine kx_st 1 (pc' := 50) (L' := [some (.ref 65), some (.int (nI k)), some (.int 0), some (.int c), some (.int 0)]) (st' := [.int 0]) (h' := kv_wd (kv_up g 64 1 (g 64 1 + 1)) w) rfl ?_
                    refine kx_st 1 (pc' := 70) (L' := [some (.ref 65), some (.int (nI k)), some (.int 0), some (.int c), some (.int 0)]) (st' := []) (h' := kv_wd (kv_up g 64 1 (g 64 1 + 1)) w) rfl ?_
                    refine kx_st 2 (pc' := 73) (L' := [some (.ref 65), some (.int (nI k)), some (.int 0), some (.int c), some (.int 0)]) (st' := [.int (-1000000001), .ref 65]) (h' := kv_wd (kv_up g 64 1 (g 64 1 + 1)) w) rfl ?_
                    refine kx_call (z := 131) (as := [.ref 65, .int (-1000000001)]) (rest := []) (v := some (.int (-1000000001))) (h1 := kv_wd (kv_up (kv_up g 64 1 (g 64 1 + 1)) 70 1 ((kv_up g 64 1 (g 64 1 + 1)) 70 1 + 1)) w) rfl (ev_errs (d := 898) (-1000000001) 1 (by decide) (by decide)) ?_
                    refine kx_st 0 (pc' := 76) (L' := [some (.ref 65), some (.int (nI k)), some (.int 0), some (.int c), some (.int 0)]) (st' := [.int (-1000000001)]) (h' := kv_wd (kv_up (kv_up g 64 1 (g 64 1 + 1)) 70 1 ((kv_up g 64 1 (g 64 1 + 1)) 70 1 + 1)) w) rfl ?_
                    refine kx_ret (v := some (.int (-1000000001))) rfl ?_
                    exact ⟨rfl, _, _, rfl, kx_Rl_e hR⟩
                · exact absurd m30 hv
            · refine kx_st 0 (pc' := 32) (L' := [some (.ref 0), some (.int (nI k)), some (.int 0), some (.int c), some (.int 99), none]) (st' := []) (h' := kv_wd g w) rfl ?_
              refine kx_st 2 (pc' := 35) (L' := [some (.ref 0), some (.int (nI k)), some (.int 0), some (.int c), some (.int 99), none]) (st' := [.int 99, .int c]) (h' := kv_wd g w) rfl ?_
              refine kx_call (z := 124) (as := [.int c, .int 99]) (rest := []) (v := some (.int (kx_b (0 ≤ c ∧ c ≤ 99)))) (h1 := kv_wd g w) rfl (ev_within (d := 898) c 99) ?_
              refine kx_st 0 (pc' := 38) (L' := [some (.ref 0), some (.int (nI k)), some (.int 0), some (.int c), some (.int 99), none]) (st' := [.int (kx_b (0 ≤ c ∧ c ≤ 99))]) (h' := kv_wd g w) rfl ?_
              refine kx_bn (t := 47) rfl rfl (fun (h38 : (0 ≤ c ∧ c ≤ 99)) => ?_) (fun (h38 : ¬ (0 ≤ c ∧ c ≤ 99)) => ?_)
              · exact absurd h38 hv
              · refine kx_st 0 (pc' := 41) (L' := [some (.ref 0), some (.int (nI k)), some (.int 0), some (.int c), some (.int 99), none]) (st' := []) (h' := kv_wd g w) rfl ?_
                refine kx_st 2 (pc' := 43) (L' := [some (.ref 0), some (.int (nI k)), some (.int 0), some (.int c), some (.int 99), none]) (st' := [.int 1, .ref 0]) (h' := kv_wd g w) rfl ?_
                refine kx_call (z := 123) (as := [.ref 0, .int 1]) (rest := []) (v := some (.int (-1000000000 - nI 1))) (h1 := kv_wd (kv_up g 64 1 (g 64 1 + 1)) w) rfl (ev_error (d := 898) 1 (by decide) (by decide)) ?_
                refine kx_st 0 (pc' := 46) (L' := [some (.ref 0), some (.int (nI k)), some (.int 0), some (.int c), some (.int 99), none]) (st' := [.int (-1000000000 - nI 1)]) (h' := kv_wd (kv_up g 64 1 (g 64 1 + 1)) w) rfl ?_
                refine kx_ret (v := some (.int (-1000000000 - nI 1))) rfl ?_
                refine ⟨_, _, _, rfl, rfl, ?_⟩
                refine kx_st 0 (pc' := 0) (L' := [some (.ref 65), some (.int (nI k)), some (.int 0), some (.int c), none]) (st' := []) (h' := kv_wd (kv_up g 64 1 (g 64 1 + 1)) w) rfl ?_
                refine kx_st 2 (pc' := 2) (L' := [some (.ref 65), some (.int (nI k)), some (.int 0), some (.int c), none]) (st' := [.int 2, .int 0]) (h' := kv_wd (kv_up g 64 1 (g 64 1 + 1)) w) rfl ?_
                refine kx_st 1 (pc' := 14) (L' := [some (.ref 65), some (.int (nI k)), some (.int 0), some (.int c), none]) (st' := []) (h' := kv_wd (kv_up g 64 1 (g 64 1 + 1)) w) rfl ?_
                refine kx_st 3 (pc' := 17) (L' := [some (.ref 65), some (.int (nI k)), some (.int 0), some (.int c), none]) (st' := [.int 1, .int 0, .int 0]) (h' := kv_wd (kv_up g 64 1 (g 64 1 + 1)) w) rfl ?_
                refine kx_call (z := 130) (as := [.int 0, .int 0, .int 1]) (rest := []) (v := some (.int (kx_b (0 ≤ (0 : Int32) ∧ (0 : Int32) ≤ 1)))) (h1 := kv_wd (kv_up g 64 1 (g 64 1 + 1)) w) rfl (ev_in (d := 898) 0 0 1) ?_
                refine kx_st 0 (pc' := 20) (L' := [some (.ref 65), some (.int (nI k)), some (.int 0), some (.int c), none]) (st' := [.int (kx_b (0 ≤ (0 : Int32) ∧ (0 : Int32) ≤ 1))]) (h' := kv_wd (kv_up g 64 1 (g 64 1 + 1)) w) rfl ?_
                refine kx_be (t := 37) rfl rfl (fun (m20 : ¬ (0 ≤ (0 : Int32) ∧ (0 : Int32) ≤ 1)) => ?_) (fun (m20 : (0 ≤ (0 : Int32) ∧ (0 : Int32) ≤ 1)) => ?_)
                · exact absurd (by decide) m20
                · refine kx_st 0 (pc' := 23) (L' := [some (.ref 65), some (.int (nI k)), some (.int 0), some (.int c), none]) (st' := []) (h' := kv_wd (kv_up g 64 1 (g 64 1 + 1)) w) rfl ?_
                  refine kx_st 3 (pc' := 27) (L' := [some (.ref 65), some (.int (nI k)), some (.int 0), some (.int c), none]) (st' := [.int 99, .int 0, .int c]) (h' := kv_wd (kv_up g 64 1 (g 64 1 + 1)) w) rfl ?_
                  refine kx_call (z := 130) (as := [.int c, .int 0, .int 99]) (rest := []) (v := some (.int (kx_b (0 ≤ c ∧ c ≤ 99)))) (h1 := kv_wd (kv_up g 64 1 (g 64 1 + 1)) w) rfl (ev_in (d := 898) c 0 99) ?_
                  refine kx_st 0 (pc' := 30) (L' := [some (.ref 65), some (.int (nI k)), some (.int 0), some (.int c), none]) (st' := [.int (kx_b (0 ≤ c ∧ c ≤ 99))]) (h' := kv_wd (kv_up g 64 1 (g 64 1 + 1)) w) rfl ?_
                  refine kx_be (t := 37) rfl rfl (fun (m30 : ¬ (0 ≤ c ∧ c ≤ 99)) => ?_) (fun (m30 : (0 ≤ c ∧ c ≤ 99)) => ?_)
                  · refine kx_st 4 (pc' := 42) (L' := [some (.ref 65), some (.int (nI k)), some (.int 0), some (.int c), some (.int 0)]) (st' := [.int (nI k), .ref 65]) (h' := kv_wd (kv_up g 64 1 (g 64 1 + 1)) w) rfl ?_
                    refine kx_call (z := 138) (as := [.ref 65, .int (nI k)]) (rest := []) (v := some (.int (kx_b (0 ≤ nI k ∧ nI k < nI s)))) (h1 := kv_wd (kv_up g 64 1 (g 64 1 + 1)) w) rfl (ev_mPersonS (d := 897) (g := (kv_up g 64 1 (g 64 1 + 1))) (s := s) b2 a2 (nI k)) ?_
                    refine kx_st 0 (pc' := 45) (L' := [some (.ref 65), some (.int (nI k)), some (.int 0), some (.int c), some (.int 0)]) (st' := [.int (kx_b (0 ≤ nI k ∧ nI k < nI s))]) (h' := kv_wd (kv_up g 64 1 (g 64 1 + 1)) w) rfl ?_
                    refine kx_be (t := 70) rfl rfl (fun (m45 : ¬ (0 ≤ nI k ∧ nI k < nI s)) => ?_) (fun (m45 : (0 ≤ nI k ∧ nI k < nI s)) => ?_)
                    · exact absurd hp m45
                    · refine kx_st 0 (pc' := 48) (L' := [some (.ref 65), some (.int (nI k)), some (.int 0), some (.int c), some (.int 0)]) (st' := []) (h' := kv_wd (kv_up g 64 1 (g 64 1 + 1)) w) rfl ?_
                      refine kx_st 1 (pc' := 50) (L' := [some (.ref 65), some (.int (nI k)), some (.int 0), some (.int c), some (.int 0)]) (st' := [.int 0]) (h' := kv_wd (kv_up g 64 1 (g 64 1 + 1)) w) rfl ?_
                      refine kx_st 1 (pc' := 70) (L' := [some (.ref 65), some (.int (nI k)), some (.int 0), some (.int c), some (.int 0)]) (st' := []) (h' := kv_wd (kv_up g 64 1 (g 64 1 + 1)) w) rfl ?_
                      refine kx_st 2 (pc' := 73) (L' := [some (.ref 65), some (.int (nI k)), some (.int 0), some (.int c), some (.int 0)]) (st' := [.int (-1000000001), .ref 65]) (h' := kv_wd (kv_up g 64 1 (g 64 1 + 1)) w) rfl ?_
                      refine kx_call (z := 131) (as := [.ref 65, .int (-1000000001)]) (rest := []) (v := some (.int (-1000000001))) (h1 := kv_wd (kv_up (kv_up g 64 1 (g 64 1 + 1)) 70 1 ((kv_up g 64 1 (g 64 1 + 1)) 70 1 + 1)) w) rfl (ev_errs (d := 898) (-1000000001) 1 (by decide) (by decide)) ?_
                      refine kx_st 0 (pc' := 76) (L' := [some (.ref 65), some (.int (nI k)), some (.int 0), some (.int c), some (.int 0)]) (st' := [.int (-1000000001)]) (h' := kv_wd (kv_up (kv_up g 64 1 (g 64 1 + 1)) 70 1 ((kv_up g 64 1 (g 64 1 + 1)) 70 1 + 1)) w) rfl ?_
                      refine kx_ret (v := some (.int (-1000000001))) rfl ?_
                      exact ⟨rfl, _, _, rfl, kx_Rl_e hR⟩
                  · exact absurd m30 hv
      · by_cases hv : 0 ≤ c ∧ c ≤ 99
        · obtain ⟨x, hx, rfl⟩ := kx_nIof (n := 99) hv.1 hv.2 (by omega)
          refine kx_two (by decide) (Nat.le_of_ble_eq_true rfl) (by decide) (Nat.le_of_ble_eq_true rfl) ?_
          refine kx_st 0 (pc' := 0) (L' := [some (.ref 0), some (.int (nI k)), some (.int 1), some (.int (nI x)), none, none]) (st' := []) (h' := kv_wd g w) rfl ?_
          refine kx_st 2 (pc' := 2) (L' := [some (.ref 0), some (.int (nI k)), some (.int 1), some (.int (nI x)), none, none]) (st' := [.int 2, .int 1]) (h' := kv_wd g w) rfl ?_
          refine kx_st 1 (pc' := 9) (L' := [some (.ref 0), some (.int (nI k)), some (.int 1), some (.int (nI x)), none, none]) (st' := []) (h' := kv_wd g w) rfl ?_
          refine kx_st 5 (pc' := 18) (L' := [some (.ref 0), some (.int (nI k)), some (.int 1), some (.int (nI x)), some (.int 99), none]) (st' := [.int (nI k), .ref 1]) (h' := kv_wd g w) rfl ?_
          refine kx_call (z := 11) (as := [.ref 1, .int (nI k)]) (rest := []) (v := some (.int (kx_b (0 ≤ nI k ∧ nI k < nI s)))) (h1 := kv_wd g w) rfl (ev_isPersonS (d := 898) (g := g) (s := s) b1 (nI k)) ?_
          refine kx_st 0 (pc' := 21) (L' := [some (.ref 0), some (.int (nI k)), some (.int 1), some (.int (nI x)), some (.int 99), none]) (st' := [.int (kx_b (0 ≤ nI k ∧ nI k < nI s))]) (h' := kv_wd g w) rfl ?_
          refine kx_be (t := 41) rfl rfl (fun (h21 : ¬ (0 ≤ nI k ∧ nI k < nI s)) => ?_) (fun (h21 : (0 ≤ nI k ∧ nI k < nI s)) => ?_)
          · exact absurd hp h21
          · refine kx_st 0 (pc' := 24) (L' := [some (.ref 0), some (.int (nI k)), some (.int 1), some (.int (nI x)), some (.int 99), none]) (st' := []) (h' := kv_wd g w) rfl ?_
            refine kx_st 2 (pc' := 26) (L' := [some (.ref 0), some (.int (nI k)), some (.int 1), some (.int (nI x)), some (.int 99), none]) (st' := [.int 2, .int 1]) (h' := kv_wd g w) rfl ?_
            refine kx_call (z := 124) (as := [.int 1, .int 2]) (rest := []) (v := some (.int (kx_b (0 ≤ (1 : Int32) ∧ (1 : Int32) ≤ 2)))) (h1 := kv_wd g w) rfl (ev_within (d := 898) 1 2) ?_
            refine kx_st 0 (pc' := 29) (L' := [some (.ref 0), some (.int (nI k)), some (.int 1), some (.int (nI x)), some (.int 99), none]) (st' := [.int (kx_b (0 ≤ (1 : Int32) ∧ (1 : Int32) ≤ 2))]) (h' := kv_wd g w) rfl ?_
            refine kx_be (t := 41) rfl rfl (fun (h29 : ¬ (0 ≤ (1 : Int32) ∧ (1 : Int32) ≤ 2)) => ?_) (fun (h29 : (0 ≤ (1 : Int32) ∧ (1 : Int32) ≤ 2)) => ?_)
            · exact absurd hw h29
            · refine kx_st 0 (pc' := 32) (L' := [some (.ref 0), some (.int (nI k)), some (.int 1), some (.int (nI x)), some (.int 99), none]) (st' := []) (h' := kv_wd g w) rfl ?_
              refine kx_st 2 (pc' := 35) (L' := [some (.ref 0), some (.int (nI k)), some (.int 1), some (.int (nI x)), some (.int 99), none]) (st' := [.int 99, .int (nI x)]) (h' := kv_wd g w) rfl ?_
              refine kx_call (z := 124) (as := [.int (nI x), .int 99]) (rest := []) (v := some (.int (kx_b (0 ≤ nI x ∧ nI x ≤ 99)))) (h1 := kv_wd g w) rfl (ev_within (d := 898) (nI x) 99) ?_
              refine kx_st 0 (pc' := 38) (L' := [some (.ref 0), some (.int (nI k)), some (.int 1), some (.int (nI x)), some (.int 99), none]) (st' := [.int (kx_b (0 ≤ nI x ∧ nI x ≤ 99))]) (h' := kv_wd g w) rfl ?_
              refine kx_bn (t := 47) rfl rfl (fun (h38 : (0 ≤ nI x ∧ nI x ≤ 99)) => ?_) (fun (h38 : ¬ (0 ≤ nI x ∧ nI x ≤ 99)) => ?_)
              · refine kx_st 4 (pc' := 53) (L' := [some (.ref 0), some (.int (nI k)), some (.int 1), some (.int (nI x)), some (.int 99), none]) (st' := [.int 1, .int (nI k), .ref 1]) (h' := kv_wd g w) rfl ?_
                refine kx_call (z := 16) (as := [.ref 1, .int (nI k), .int 1]) (rest := []) (v := some (.int (if (1 : Int32) = 2 then kx_b ((0 ≤ nI k ∧ nI k < g 1 0) ∧ ((g 1 1 >>> (nI k &&& 31)) &&& 1) = 1) else if (1 : Int32) = 0 then g 3 k else g 4 k))) (h1 := kv_wd g w) rfl (ev_personHas (d := 896) k (by omega) 1) ?_
                refine kx_st 0 (pc' := 56) (L' := [some (.ref 0), some (.int (nI k)), some (.int 1), some (.int (nI x)), some (.int 99), none]) (st' := [.int (if (1 : Int32) = 2 then kx_b ((0 ≤ nI k ∧ nI k < g 1 0) ∧ ((g 1 1 >>> (nI k &&& 31)) &&& 1) = 1) else if (1 : Int32) = 0 then g 3 k else g 4 k)]) (h' := kv_wd g w) rfl ?_
                refine kx_st 3 (pc' := 60) (L' := [some (.ref 0), some (.int (nI k)), some (.int 1), some (.int (nI x)), some (.int 99), some (.int (if (1 : Int32) = 2 then kx_b ((0 ≤ nI k ∧ nI k < g 1 0) ∧ ((g 1 1 >>> (nI k &&& 31)) &&& 1) = 1) else if (1 : Int32) = 0 then g 3 k else g 4 k))]) (st' := [.int 2, .int 1]) (h' := kv_wd g w) rfl ?_
                refine kx_st 1 (pc' := 84) (L' := [some (.ref 0), some (.int (nI k)), some (.int 1), some (.int (nI x)), some (.int 99), some (.int (if (1 : Int32) = 2 then kx_b ((0 ≤ nI k ∧ nI k < g 1 0) ∧ ((g 1 1 >>> (nI k &&& 31)) &&& 1) = 1) else if (1 : Int32) = 0 then g 3 k else g 4 k))]) (st' := []) (h' := kv_wd g w) rfl ?_
                refine kx_st 6 (pc' := 94) (L' := [some (.ref 0), some (.int (nI k)), some (.int 1), some (.int (nI x)), some (.int 99), some (.int (if (1 : Int32) = 2 then kx_b ((0 ≤ nI k ∧ nI k < g 1 0) ∧ ((g 1 1 >>> (nI k &&& 31)) &&& 1) = 1) else if (1 : Int32) = 0 then g 3 k else g 4 k))]) (st' := [.int (nI x), .int 1, .int (nI k), .ref 2]) (h' := kv_wd g w) rfl ?_
                refine kx_call (z := 3) (as := [.ref 2, .int (nI k), .int 1, .int (nI x)]) (rest := []) (v := none) (h1 := kv_wd (kv_up g (2 + 2) k (nI x)) w) rfl (ev_setHand_r (d := 898) kv_hd2 k (by omega) (nI x)) ?_
                refine kx_st 0 (pc' := 97) (L' := [some (.ref 0), some (.int (nI k)), some (.int 1), some (.int (nI x)), some (.int 99), some (.int (if (1 : Int32) = 2 then kx_b ((0 ≤ nI k ∧ nI k < g 1 0) ∧ ((g 1 1 >>> (nI k &&& 31)) &&& 1) = 1) else if (1 : Int32) = 0 then g 3 k else g 4 k))]) (st' := []) (h' := kv_wd (kv_up g (2 + 2) k (nI x)) w) rfl ?_
                refine kx_st 1 (pc' := 99) (L' := [some (.ref 0), some (.int (nI k)), some (.int 1), some (.int (nI x)), some (.int 99), some (.int (if (1 : Int32) = 2 then kx_b ((0 ≤ nI k ∧ nI k < g 1 0) ∧ ((g 1 1 >>> (nI k &&& 31)) &&& 1) = 1) else if (1 : Int32) = 0 then g 3 k else g 4 k))]) (st' := [.int (if (1 : Int32) = 2 then kx_b ((0 ≤ nI k ∧ nI k < g 1 0) ∧ ((g 1 1 >>> (nI k &&& 31)) &&& 1) = 1) else if (1 : Int32) = 0 then g 3 k else g 4 k)]) (h' := kv_wd (kv_up g (2 + 2) k (nI x)) w) rfl ?_
                refine kx_ret (v := some (.int (if (1 : Int32) = 2 then kx_b ((0 ≤ nI k ∧ nI k < g 1 0) ∧ ((g 1 1 >>> (nI k &&& 31)) &&& 1) = 1) else if (1 : Int32) = 0 then g 3 k else g 4 k))) rfl ?_
                refine ⟨_, _, _, rfl, rfl, ?_⟩
                refine kx_st 0 (pc' := 0) (L' := [some (.ref 65), some (.int (nI k)), some (.int 1), some (.int (nI x)), none]) (st' := []) (h' := kv_wd (kv_up g (2 + 2) k (nI x)) w) rfl ?_
                refine kx_st 2 (pc' := 2) (L' := [some (.ref 65), some (.int (nI k)), some (.int 1), some (.int (nI x)), none]) (st' := [.int 2, .int 1]) (h' := kv_wd (kv_up g (2 + 2) k (nI x)) w) rfl ?_
                refine kx_st 1 (pc' := 14) (L' := [some (.ref 65), some (.int (nI k)), some (.int 1), some (.int (nI x)), none]) (st' := []) (h' := kv_wd (kv_up g (2 + 2) k (nI x)) w) rfl ?_
                refine kx_st 3 (pc' := 17) (L' := [some (.ref 65), some (.int (nI k)), some (.int 1), some (.int (nI x)), none]) (st' := [.int 1, .int 0, .int 1]) (h' := kv_wd (kv_up g (2 + 2) k (nI x)) w) rfl ?_
                refine kx_call (z := 130) (as := [.int 1, .int 0, .int 1]) (rest := []) (v := some (.int (kx_b (0 ≤ (1 : Int32) ∧ (1 : Int32) ≤ 1)))) (h1 := kv_wd (kv_up g (2 + 2) k (nI x)) w) rfl (ev_in (d := 898) 1 0 1) ?_
                refine kx_st 0 (pc' := 20) (L' := [some (.ref 65), some (.int (nI k)), some (.int 1), some (.int (nI x)), none]) (st' := [.int (kx_b (0 ≤ (1 : Int32) ∧ (1 : Int32) ≤ 1))]) (h' := kv_wd (kv_up g (2 + 2) k (nI x)) w) rfl ?_
                refine kx_be (t := 37) rfl rfl (fun (m20 : ¬ (0 ≤ (1 : Int32) ∧ (1 : Int32) ≤ 1)) => ?_) (fun (m20 : (0 ≤ (1 : Int32) ∧ (1 : Int32) ≤ 1)) => ?_)
                · exact absurd (by decide) m20
                · refine kx_st 0 (pc' := 23) (L' := [some (.ref 65), some (.int (nI k)), some (.int 1), some (.int (nI x)), none]) (st' := []) (h' := kv_wd (kv_up g (2 + 2) k (nI x)) w) rfl ?_
                  refine kx_st 3 (pc' := 27) (L' := [some (.ref 65), some (.int (nI k)), some (.int 1), some (.int (nI x)), none]) (st' := [.int 99, .int 0, .int (nI x)]) (h' := kv_wd (kv_up g (2 + 2) k (nI x)) w) rfl ?_
                  refine kx_call (z := 130) (as := [.int (nI x), .int 0, .int 99]) (rest := []) (v := some (.int (kx_b (0 ≤ nI x ∧ nI x ≤ 99)))) (h1 := kv_wd (kv_up g (2 + 2) k (nI x)) w) rfl (ev_in (d := 898) (nI x) 0 99) ?_
                  refine kx_st 0 (pc' := 30) (L' := [some (.ref 65), some (.int (nI k)), some (.int 1), some (.int (nI x)), none]) (st' := [.int (kx_b (0 ≤ nI x ∧ nI x ≤ 99))]) (h' := kv_wd (kv_up g (2 + 2) k (nI x)) w) rfl ?_
                  refine kx_be (t := 37) rfl rfl (fun (m30 : ¬ (0 ≤ nI x ∧ nI x ≤ 99)) => ?_) (fun (m30 : (0 ≤ nI x ∧ nI x ≤ 99)) => ?_)
                  · exact absurd hv m30
                  · refine kx_st 0 (pc' := 33) (L' := [some (.ref 65), some (.int (nI k)), some (.int 1), some (.int (nI x)), none]) (st' := []) (h' := kv_wd (kv_up g (2 + 2) k (nI x)) w) rfl ?_
                    refine kx_st 5 (pc' := 42) (L' := [some (.ref 65), some (.int (nI k)), some (.int 1), some (.int (nI x)), some (.int 1)]) (st' := [.int (nI k), .ref 65]) (h' := kv_wd (kv_up g (2 + 2) k (nI x)) w) rfl ?_
                    refine kx_call (z := 138) (as := [.ref 65, .int (nI k)]) (rest := []) (v := some (.int (kx_b (0 ≤ nI k ∧ nI k < nI s)))) (h1 := kv_wd (kv_up g (2 + 2) k (nI x)) w) rfl (ev_mPersonS (d := 897) (g := (kv_up g (2 + 2) k (nI x))) (s := s) b2 a2 (nI k)) ?_
                    refine kx_st 0 (pc' := 45) (L' := [some (.ref 65), some (.int (nI k)), some (.int 1), some (.int (nI x)), some (.int 1)]) (st' := [.int (kx_b (0 ≤ nI k ∧ nI k < nI s))]) (h' := kv_wd (kv_up g (2 + 2) k (nI x)) w) rfl ?_
                    refine kx_be (t := 70) rfl rfl (fun (m45 : ¬ (0 ≤ nI k ∧ nI k < nI s)) => ?_) (fun (m45 : (0 ≤ nI k ∧ nI k < nI s)) => ?_)
                    · exact absurd hp m45
                    · refine kx_st 0 (pc' := 48) (L' := [some (.ref 65), some (.int (nI k)), some (.int 1), some (.int (nI x)), some (.int 1)]) (st' := []) (h' := kv_wd (kv_up g (2 + 2) k (nI x)) w) rfl ?_
                      refine kx_st 1 (pc' := 50) (L' := [some (.ref 65), some (.int (nI k)), some (.int 1), some (.int (nI x)), some (.int 1)]) (st' := [.int 1]) (h' := kv_wd (kv_up g (2 + 2) k (nI x)) w) rfl ?_
                      refine kx_st 1 (pc' := 53) (L' := [some (.ref 65), some (.int (nI k)), some (.int 1), some (.int (nI x)), some (.int 1)]) (st' := []) (h' := kv_wd (kv_up g (2 + 2) k (nI x)) w) rfl ?_
                      refine kx_st 9 (pc' := 64) (L' := [some (.ref 65), some (.int (nI k)), some (.int 1), some (.int (nI x)), some (.int 1)]) (st' := [.int (nI x), .int (14 + (nI k)), .ref 65]) (h' := kv_wd (kv_up g (2 + 2) k (nI x)) w) rfl ?_
                      refine kx_call (z := 142) (as := [.ref 65, .int (14 + (nI k)), .int (nI x)]) (rest := []) (v := some (.int ((kv_up g (2 + 2) k (nI x)) 66 (14 + k)))) (h1 := kv_wd (kv_up (kv_up g (2 + 2) k (nI x)) 66 (14 + k) (nI x)) w) rfl (by rw [show (14 : Int32) + nI k = nI (14 + k) from kx_nadd 14 k]; exact ev_becomes (d := 898) (14 + k) (by omega) (nI x)) ?_
                      refine kx_st 0 (pc' := 67) (L' := [some (.ref 65), some (.int (nI k)), some (.int 1), some (.int (nI x)), some (.int 1)]) (st' := [.int ((kv_up g (2 + 2) k (nI x)) 66 (14 + k))]) (h' := kv_wd (kv_up (kv_up g (2 + 2) k (nI x)) 66 (14 + k) (nI x)) w) rfl ?_
                      refine kx_st 1 (pc' := 76) (L' := [some (.ref 65), some (.int (nI k)), some (.int 1), some (.int (nI x)), some (.int 1)]) (st' := [.int ((kv_up g (2 + 2) k (nI x)) 66 (14 + k))]) (h' := kv_wd (kv_up (kv_up g (2 + 2) k (nI x)) 66 (14 + k) (nI x)) w) rfl ?_
                      refine kx_ret (v := some (.int ((kv_up g (2 + 2) k (nI x)) 66 (14 + k)))) rfl ?_
                      exact ⟨by rw [if_neg (by decide), if_neg (by decide)]; exact congrArg (fun z => some (Value.int z)) (H2 k (by omega)).1.2.symm, _, _, rfl, kx_Rl_hn hR q (fun b hb hb2 => by repeat rw [kv_up_ne (by omega)]) (fun z hz => rfl) ⟨rfl, rfl⟩ (kx_hn_mk ⟨H1, H2, H3, H4, H5, hz, l0, l1⟩ (kx_H1_cg rfl rfl rfl (fun j hj => kx_upn (r := g 66) (by omega)) (fun _ _ _ _ => rfl) H1) (kx_H2_r (by omega) hx H2) (kx_H3_cg rfl (kx_upn (r := g 66) (by omega)) H3) (kx_H4_cg rfl (fun _ _ => rfl) (fun j hj => kx_upn (r := g 66) (by omega)) H4) (kx_H5_cg rfl (fun _ _ => rfl) (fun j hj => kx_upn (r := g 66) (by omega)) H5) (hz.trans (kx_upn (r := g 66) (by omega)).symm) ⟨rfl, rfl, rfl, rfl⟩ (fun j hj => kx_upn (r := g 66) (by omega)))⟩
              · exact absurd hv h38
        · refine kx_two (by decide) (Nat.le_of_ble_eq_true rfl) (by decide) (Nat.le_of_ble_eq_true rfl) ?_
          refine kx_st 0 (pc' := 0) (L' := [some (.ref 0), some (.int (nI k)), some (.int 1), some (.int c), none, none]) (st' := []) (h' := kv_wd g w) rfl ?_
          refine kx_st 2 (pc' := 2) (L' := [some (.ref 0), some (.int (nI k)), some (.int 1), some (.int c), none, none]) (st' := [.int 2, .int 1]) (h' := kv_wd g w) rfl ?_
          refine kx_st 1 (pc' := 9) (L' := [some (.ref 0), some (.int (nI k)), some (.int 1), some (.int c), none, none]) (st' := []) (h' := kv_wd g w) rfl ?_
          refine kx_st 5 (pc' := 18) (L' := [some (.ref 0), some (.int (nI k)), some (.int 1), some (.int c), some (.int 99), none]) (st' := [.int (nI k), .ref 1]) (h' := kv_wd g w) rfl ?_
          refine kx_call (z := 11) (as := [.ref 1, .int (nI k)]) (rest := []) (v := some (.int (kx_b (0 ≤ nI k ∧ nI k < nI s)))) (h1 := kv_wd g w) rfl (ev_isPersonS (d := 898) (g := g) (s := s) b1 (nI k)) ?_
          refine kx_st 0 (pc' := 21) (L' := [some (.ref 0), some (.int (nI k)), some (.int 1), some (.int c), some (.int 99), none]) (st' := [.int (kx_b (0 ≤ nI k ∧ nI k < nI s))]) (h' := kv_wd g w) rfl ?_
          refine kx_be (t := 41) rfl rfl (fun (h21 : ¬ (0 ≤ nI k ∧ nI k < nI s)) => ?_) (fun (h21 : (0 ≤ nI k ∧ nI k < nI s)) => ?_)
          · refine kx_st 2 (pc' := 43) (L' := [some (.ref 0), some (.int (nI k)), some (.int 1), some (.int c), some (.int 99), none]) (st' := [.int 1, .ref 0]) (h' := kv_wd g w) rfl ?_
            refine kx_call (z := 123) (as := [.ref 0, .int 1]) (rest := []) (v := some (.int (-1000000000 - nI 1))) (h1 := kv_wd (kv_up g 64 1 (g 64 1 + 1)) w) rfl (ev_error (d := 898) 1 (by decide) (by decide)) ?_
            refine kx_st 0 (pc' := 46) (L' := [some (.ref 0), some (.int (nI k)), some (.int 1), some (.int c), some (.int 99), none]) (st' := [.int (-1000000000 - nI 1)]) (h' := kv_wd (kv_up g 64 1 (g 64 1 + 1)) w) rfl ?_
            refine kx_ret (v := some (.int (-1000000000 - nI 1))) rfl ?_
            refine ⟨_, _, _, rfl, rfl, ?_⟩
            refine kx_st 0 (pc' := 0) (L' := [some (.ref 65), some (.int (nI k)), some (.int 1), some (.int c), none]) (st' := []) (h' := kv_wd (kv_up g 64 1 (g 64 1 + 1)) w) rfl ?_
            refine kx_st 2 (pc' := 2) (L' := [some (.ref 65), some (.int (nI k)), some (.int 1), some (.int c), none]) (st' := [.int 2, .int 1]) (h' := kv_wd (kv_up g 64 1 (g 64 1 + 1)) w) rfl ?_
            refine kx_st 1 (pc' := 14) (L' := [some (.ref 65), some (.int (nI k)), some (.int 1), some (.int c), none]) (st' := []) (h' := kv_wd (kv_up g 64 1 (g 64 1 + 1)) w) rfl ?_
            refine kx_st 3 (pc' := 17) (L' := [some (.ref 65), some (.int (nI k)), some (.int 1), some (.int c), none]) (st' := [.int 1, .int 0, .int 1]) (h' := kv_wd (kv_up g 64 1 (g 64 1 + 1)) w) rfl ?_
            refine kx_call (z := 130) (as := [.int 1, .int 0, .int 1]) (rest := []) (v := some (.int (kx_b (0 ≤ (1 : Int32) ∧ (1 : Int32) ≤ 1)))) (h1 := kv_wd (kv_up g 64 1 (g 64 1 + 1)) w) rfl (ev_in (d := 898) 1 0 1) ?_
            refine kx_st 0 (pc' := 20) (L' := [some (.ref 65), some (.int (nI k)), some (.int 1), some (.int c), none]) (st' := [.int (kx_b (0 ≤ (1 : Int32) ∧ (1 : Int32) ≤ 1))]) (h' := kv_wd (kv_up g 64 1 (g 64 1 + 1)) w) rfl ?_
            refine kx_be (t := 37) rfl rfl (fun (m20 : ¬ (0 ≤ (1 : Int32) ∧ (1 : Int32) ≤ 1)) => ?_) (fun (m20 : (0 ≤ (1 : Int32) ∧ (1 : Int32) ≤ 1)) => ?_)
            · exact absurd (by decide) m20
            · refine kx_st 0 (pc' := 23) (L' := [some (.ref 65), some (.int (nI k)), some (.int 1), some (.int c), none]) (st' := []) (h' := kv_wd (kv_up g 64 1 (g 64 1 + 1)) w) rfl ?_
              refine kx_st 3 (pc' := 27) (L' := [some (.ref 65), some (.int (nI k)), some (.int 1), some (.int c), none]) (st' := [.int 99, .int 0, .int c]) (h' := kv_wd (kv_up g 64 1 (g 64 1 + 1)) w) rfl ?_
              refine kx_call (z := 130) (as := [.int c, .int 0, .int 99]) (rest := []) (v := some (.int (kx_b (0 ≤ c ∧ c ≤ 99)))) (h1 := kv_wd (kv_up g 64 1 (g 64 1 + 1)) w) rfl (ev_in (d := 898) c 0 99) ?_
              refine kx_st 0 (pc' := 30) (L' := [some (.ref 65), some (.int (nI k)), some (.int 1), some (.int c), none]) (st' := [.int (kx_b (0 ≤ c ∧ c ≤ 99))]) (h' := kv_wd (kv_up g 64 1 (g 64 1 + 1)) w) rfl ?_
              refine kx_be (t := 37) rfl rfl (fun (m30 : ¬ (0 ≤ c ∧ c ≤ 99)) => ?_) (fun (m30 : (0 ≤ c ∧ c ≤ 99)) => ?_)
              · refine kx_st 4 (pc' := 42) (L' := [some (.ref 65), some (.int (nI k)), some (.int 1), some (.int c), some (.int 0)]) (st' := [.int (nI k), .ref 65]) (h' := kv_wd (kv_up g 64 1 (g 64 1 + 1)) w) rfl ?_
                refine kx_call (z := 138) (as := [.ref 65, .int (nI k)]) (rest := []) (v := some (.int (kx_b (0 ≤ nI k ∧ nI k < nI s)))) (h1 := kv_wd (kv_up g 64 1 (g 64 1 + 1)) w) rfl (ev_mPersonS (d := 897) (g := (kv_up g 64 1 (g 64 1 + 1))) (s := s) b2 a2 (nI k)) ?_
                refine kx_st 0 (pc' := 45) (L' := [some (.ref 65), some (.int (nI k)), some (.int 1), some (.int c), some (.int 0)]) (st' := [.int (kx_b (0 ≤ nI k ∧ nI k < nI s))]) (h' := kv_wd (kv_up g 64 1 (g 64 1 + 1)) w) rfl ?_
                refine kx_be (t := 70) rfl rfl (fun (m45 : ¬ (0 ≤ nI k ∧ nI k < nI s)) => ?_) (fun (m45 : (0 ≤ nI k ∧ nI k < nI s)) => ?_)
                · exact absurd hp m45
                · exact absurd m45 h21
              · exact absurd m30 hv
          · refine kx_st 0 (pc' := 24) (L' := [some (.ref 0), some (.int (nI k)), some (.int 1), some (.int c), some (.int 99), none]) (st' := []) (h' := kv_wd g w) rfl ?_
            refine kx_st 2 (pc' := 26) (L' := [some (.ref 0), some (.int (nI k)), some (.int 1), some (.int c), some (.int 99), none]) (st' := [.int 2, .int 1]) (h' := kv_wd g w) rfl ?_
            refine kx_call (z := 124) (as := [.int 1, .int 2]) (rest := []) (v := some (.int (kx_b (0 ≤ (1 : Int32) ∧ (1 : Int32) ≤ 2)))) (h1 := kv_wd g w) rfl (ev_within (d := 898) 1 2) ?_
            refine kx_st 0 (pc' := 29) (L' := [some (.ref 0), some (.int (nI k)), some (.int 1), some (.int c), some (.int 99), none]) (st' := [.int (kx_b (0 ≤ (1 : Int32) ∧ (1 : Int32) ≤ 2))]) (h' := kv_wd g w) rfl ?_
            refine kx_be (t := 41) rfl rfl (fun (h29 : ¬ (0 ≤ (1 : Int32) ∧ (1 : Int32) ≤ 2)) => ?_) (fun (h29 : (0 ≤ (1 : Int32) ∧ (1 : Int32) ≤ 2)) => ?_)
            · refine kx_st 2 (pc' := 43) (L' := [some (.ref 0), some (.int (nI k)), some (.int 1), some (.int c), some (.int 99), none]) (st' := [.int 1, .ref 0]) (h' := kv_wd g w) rfl ?_
              refine kx_call (z := 123) (as := [.ref 0, .int 1]) (rest := []) (v := some (.int (-1000000000 - nI 1))) (h1 := kv_wd (kv_up g 64 1 (g 64 1 + 1)) w) rfl (ev_error (d := 898) 1 (by decide) (by decide)) ?_
              refine kx_st 0 (pc' := 46) (L' := [some (.ref 0), some (.int (nI k)), some (.int 1), some (.int c), some (.int 99), none]) (st' := [.int (-1000000000 - nI 1)]) (h' := kv_wd (kv_up g 64 1 (g 64 1 + 1)) w) rfl ?_
              refine kx_ret (v := some (.int (-1000000000 - nI 1))) rfl ?_
              refine ⟨_, _, _, rfl, rfl, ?_⟩
              refine kx_st 0 (pc' := 0) (L' := [some (.ref 65), some (.int (nI k)), some (.int 1), some (.int c), none]) (st' := []) (h' := kv_wd (kv_up g 64 1 (g 64 1 + 1)) w) rfl ?_
              refine kx_st 2 (pc' := 2) (L' := [some (.ref 65), some (.int (nI k)), some (.int 1), some (.int c), none]) (st' := [.int 2, .int 1]) (h' := kv_wd (kv_up g 64 1 (g 64 1 + 1)) w) rfl ?_
              refine kx_st 1 (pc' := 14) (L' := [some (.ref 65), some (.int (nI k)), some (.int 1), some (.int c), none]) (st' := []) (h' := kv_wd (kv_up g 64 1 (g 64 1 + 1)) w) rfl ?_
              refine kx_st 3 (pc' := 17) (L' := [some (.ref 65), some (.int (nI k)), some (.int 1), some (.int c), none]) (st' := [.int 1, .int 0, .int 1]) (h' := kv_wd (kv_up g 64 1 (g 64 1 + 1)) w) rfl ?_
              refine kx_call (z := 130) (as := [.int 1, .int 0, .int 1]) (rest := []) (v := some (.int (kx_b (0 ≤ (1 : Int32) ∧ (1 : Int32) ≤ 1)))) (h1 := kv_wd (kv_up g 64 1 (g 64 1 + 1)) w) rfl (ev_in (d := 898) 1 0 1) ?_
              refine kx_st 0 (pc' := 20) (L' := [some (.ref 65), some (.int (nI k)), some (.int 1), some (.int c), none]) (st' := [.int (kx_b (0 ≤ (1 : Int32) ∧ (1 : Int32) ≤ 1))]) (h' := kv_wd (kv_up g 64 1 (g 64 1 + 1)) w) rfl ?_
              refine kx_be (t := 37) rfl rfl (fun (m20 : ¬ (0 ≤ (1 : Int32) ∧ (1 : Int32) ≤ 1)) => ?_) (fun (m20 : (0 ≤ (1 : Int32) ∧ (1 : Int32) ≤ 1)) => ?_)
              · exact absurd (by decide) m20
              · refine kx_st 0 (pc' := 23) (L' := [some (.ref 65), some (.int (nI k)), some (.int 1), some (.int c), none]) (st' := []) (h' := kv_wd (kv_up g 64 1 (g 64 1 + 1)) w) rfl ?_
                refine kx_st 3 (pc' := 27) (L' := [some (.ref 65), some (.int (nI k)), some (.int 1), some (.int c), none]) (st' := [.int 99, .int 0, .int c]) (h' := kv_wd (kv_up g 64 1 (g 64 1 + 1)) w) rfl ?_
                refine kx_call (z := 130) (as := [.int c, .int 0, .int 99]) (rest := []) (v := some (.int (kx_b (0 ≤ c ∧ c ≤ 99)))) (h1 := kv_wd (kv_up g 64 1 (g 64 1 + 1)) w) rfl (ev_in (d := 898) c 0 99) ?_
                refine kx_st 0 (pc' := 30) (L' := [some (.ref 65), some (.int (nI k)), some (.int 1), some (.int c), none]) (st' := [.int (kx_b (0 ≤ c ∧ c ≤ 99))]) (h' := kv_wd (kv_up g 64 1 (g 64 1 + 1)) w) rfl ?_
                refine kx_be (t := 37) rfl rfl (fun (m30 : ¬ (0 ≤ c ∧ c ≤ 99)) => ?_) (fun (m30 : (0 ≤ c ∧ c ≤ 99)) => ?_)
                · refine kx_st 4 (pc' := 42) (L' := [some (.ref 65), some (.int (nI k)), some (.int 1), some (.int c), some (.int 0)]) (st' := [.int (nI k), .ref 65]) (h' := kv_wd (kv_up g 64 1 (g 64 1 + 1)) w) rfl ?_
                  refine kx_call (z := 138) (as := [.ref 65, .int (nI k)]) (rest := []) (v := some (.int (kx_b (0 ≤ nI k ∧ nI k < nI s)))) (h1 := kv_wd (kv_up g 64 1 (g 64 1 + 1)) w) rfl (ev_mPersonS (d := 897) (g := (kv_up g 64 1 (g 64 1 + 1))) (s := s) b2 a2 (nI k)) ?_
                  refine kx_st 0 (pc' := 45) (L' := [some (.ref 65), some (.int (nI k)), some (.int 1), some (.int c), some (.int 0)]) (st' := [.int (kx_b (0 ≤ nI k ∧ nI k < nI s))]) (h' := kv_wd (kv_up g 64 1 (g 64 1 + 1)) w) rfl ?_
                  refine kx_be (t := 70) rfl rfl (fun (m45 : ¬ (0 ≤ nI k ∧ nI k < nI s)) => ?_) (fun (m45 : (0 ≤ nI k ∧ nI k < nI s)) => ?_)
                  · exact absurd hp m45
                  · refine kx_st 0 (pc' := 48) (L' := [some (.ref 65), some (.int (nI k)), some (.int 1), some (.int c), some (.int 0)]) (st' := []) (h' := kv_wd (kv_up g 64 1 (g 64 1 + 1)) w) rfl ?_
                    refine kx_st 1 (pc' := 50) (L' := [some (.ref 65), some (.int (nI k)), some (.int 1), some (.int c), some (.int 0)]) (st' := [.int 0]) (h' := kv_wd (kv_up g 64 1 (g 64 1 + 1)) w) rfl ?_
                    refine kx_st 1 (pc' := 70) (L' := [some (.ref 65), some (.int (nI k)), some (.int 1), some (.int c), some (.int 0)]) (st' := []) (h' := kv_wd (kv_up g 64 1 (g 64 1 + 1)) w) rfl ?_
                    refine kx_st 2 (pc' := 73) (L' := [some (.ref 65), some (.int (nI k)), some (.int 1), some (.int c), some (.int 0)]) (st' := [.int (-1000000001), .ref 65]) (h' := kv_wd (kv_up g 64 1 (g 64 1 + 1)) w) rfl ?_
                    refine kx_call (z := 131) (as := [.ref 65, .int (-1000000001)]) (rest := []) (v := some (.int (-1000000001))) (h1 := kv_wd (kv_up (kv_up g 64 1 (g 64 1 + 1)) 70 1 ((kv_up g 64 1 (g 64 1 + 1)) 70 1 + 1)) w) rfl (ev_errs (d := 898) (-1000000001) 1 (by decide) (by decide)) ?_
                    refine kx_st 0 (pc' := 76) (L' := [some (.ref 65), some (.int (nI k)), some (.int 1), some (.int c), some (.int 0)]) (st' := [.int (-1000000001)]) (h' := kv_wd (kv_up (kv_up g 64 1 (g 64 1 + 1)) 70 1 ((kv_up g 64 1 (g 64 1 + 1)) 70 1 + 1)) w) rfl ?_
                    refine kx_ret (v := some (.int (-1000000001))) rfl ?_
                    exact ⟨rfl, _, _, rfl, kx_Rl_e hR⟩
                · exact absurd m30 hv
            · refine kx_st 0 (pc' := 32) (L' := [some (.ref 0), some (.int (nI k)), some (.int 1), some (.int c), some (.int 99), none]) (st' := []) (h' := kv_wd g w) rfl ?_
              refine kx_st 2 (pc' := 35) (L' := [some (.ref 0), some (.int (nI k)), some (.int 1), some (.int c), some (.int 99), none]) (st' := [.int 99, .int c]) (h' := kv_wd g w) rfl ?_
              refine kx_call (z := 124) (as := [.int c, .int 99]) (rest := []) (v := some (.int (kx_b (0 ≤ c ∧ c ≤ 99)))) (h1 := kv_wd g w) rfl (ev_within (d := 898) c 99) ?_
              refine kx_st 0 (pc' := 38) (L' := [some (.ref 0), some (.int (nI k)), some (.int 1), some (.int c), some (.int 99), none]) (st' := [.int (kx_b (0 ≤ c ∧ c ≤ 99))]) (h' := kv_wd g w) rfl ?_
              refine kx_bn (t := 47) rfl rfl (fun (h38 : (0 ≤ c ∧ c ≤ 99)) => ?_) (fun (h38 : ¬ (0 ≤ c ∧ c ≤ 99)) => ?_)
              · exact absurd h38 hv
              · refine kx_st 0 (pc' := 41) (L' := [some (.ref 0), some (.int (nI k)), some (.int 1), some (.int c), some (.int 99), none]) (st' := []) (h' := kv_wd g w) rfl ?_
                refine kx_st 2 (pc' := 43) (L' := [some (.ref 0), some (.int (nI k)), some (.int 1), some (.int c), some (.int 99), none]) (st' := [.int 1, .ref 0]) (h' := kv_wd g w) rfl ?_
                refine kx_call (z := 123) (as := [.ref 0, .int 1]) (rest := []) (v := some (.int (-1000000000 - nI 1))) (h1 := kv_wd (kv_up g 64 1 (g 64 1 + 1)) w) rfl (ev_error (d := 898) 1 (by decide) (by decide)) ?_
                refine kx_st 0 (pc' := 46) (L' := [some (.ref 0), some (.int (nI k)), some (.int 1), some (.int c), some (.int 99), none]) (st' := [.int (-1000000000 - nI 1)]) (h' := kv_wd (kv_up g 64 1 (g 64 1 + 1)) w) rfl ?_
                refine kx_ret (v := some (.int (-1000000000 - nI 1))) rfl ?_
                refine ⟨_, _, _, rfl, rfl, ?_⟩
                refine kx_st 0 (pc' := 0) (L' := [some (.ref 65), some (.int (nI k)), some (.int 1), some (.int c), none]) (st' := []) (h' := kv_wd (kv_up g 64 1 (g 64 1 + 1)) w) rfl ?_
                refine kx_st 2 (pc' := 2) (L' := [some (.ref 65), some (.int (nI k)), some (.int 1), some (.int c), none]) (st' := [.int 2, .int 1]) (h' := kv_wd (kv_up g 64 1 (g 64 1 + 1)) w) rfl ?_
                refine kx_st 1 (pc' := 14) (L' := [some (.ref 65), some (.int (nI k)), some (.int 1), some (.int c), none]) (st' := []) (h' := kv_wd (kv_up g 64 1 (g 64 1 + 1)) w) rfl ?_
                refine kx_st 3 (pc' := 17) (L' := [some (.ref 65), some (.int (nI k)), some (.int 1), some (.int c), none]) (st' := [.int 1, .int 0, .int 1]) (h' := kv_wd (kv_up g 64 1 (g 64 1 + 1)) w) rfl ?_
                refine kx_call (z := 130) (as := [.int 1, .int 0, .int 1]) (rest := []) (v := some (.int (kx_b (0 ≤ (1 : Int32) ∧ (1 : Int32) ≤ 1)))) (h1 := kv_wd (kv_up g 64 1 (g 64 1 + 1)) w) rfl (ev_in (d := 898) 1 0 1) ?_
                refine kx_st 0 (pc' := 20) (L' := [some (.ref 65), some (.int (nI k)), some (.int 1), some (.int c), none]) (st' := [.int (kx_b (0 ≤ (1 : Int32) ∧ (1 : Int32) ≤ 1))]) (h' := kv_wd (kv_up g 64 1 (g 64 1 + 1)) w) rfl ?_
                refine kx_be (t := 37) rfl rfl (fun (m20 : ¬ (0 ≤ (1 : Int32) ∧ (1 : Int32) ≤ 1)) => ?_) (fun (m20 : (0 ≤ (1 : Int32) ∧ (1 : Int32) ≤ 1)) => ?_)
                · exact absurd (by decide) m20
                · refine kx_st 0 (pc' := 23) (L' := [some (.ref 65), some (.int (nI k)), some (.int 1), some (.int c), none]) (st' := []) (h' := kv_wd (kv_up g 64 1 (g 64 1 + 1)) w) rfl ?_
                  refine kx_st 3 (pc' := 27) (L' := [some (.ref 65), some (.int (nI k)), some (.int 1), some (.int c), none]) (st' := [.int 99, .int 0, .int c]) (h' := kv_wd (kv_up g 64 1 (g 64 1 + 1)) w) rfl ?_
                  refine kx_call (z := 130) (as := [.int c, .int 0, .int 99]) (rest := []) (v := some (.int (kx_b (0 ≤ c ∧ c ≤ 99)))) (h1 := kv_wd (kv_up g 64 1 (g 64 1 + 1)) w) rfl (ev_in (d := 898) c 0 99) ?_
                  refine kx_st 0 (pc' := 30) (L' := [some (.ref 65), some (.int (nI k)), some (.int 1), some (.int c), none]) (st' := [.int (kx_b (0 ≤ c ∧ c ≤ 99))]) (h' := kv_wd (kv_up g 64 1 (g 64 1 + 1)) w) rfl ?_
                  refine kx_be (t := 37) rfl rfl (fun (m30 : ¬ (0 ≤ c ∧ c ≤ 99)) => ?_) (fun (m30 : (0 ≤ c ∧ c ≤ 99)) => ?_)
                  · refine kx_st 4 (pc' := 42) (L' := [some (.ref 65), some (.int (nI k)), some (.int 1), some (.int c), some (.int 0)]) (st' := [.int (nI k), .ref 65]) (h' := kv_wd (kv_up g 64 1 (g 64 1 + 1)) w) rfl ?_
                    refine kx_call (z := 138) (as := [.ref 65, .int (nI k)]) (rest := []) (v := some (.int (kx_b (0 ≤ nI k ∧ nI k < nI s)))) (h1 := kv_wd (kv_up g 64 1 (g 64 1 + 1)) w) rfl (ev_mPersonS (d := 897) (g := (kv_up g 64 1 (g 64 1 + 1))) (s := s) b2 a2 (nI k)) ?_
                    refine kx_st 0 (pc' := 45) (L' := [some (.ref 65), some (.int (nI k)), some (.int 1), some (.int c), some (.int 0)]) (st' := [.int (kx_b (0 ≤ nI k ∧ nI k < nI s))]) (h' := kv_wd (kv_up g 64 1 (g 64 1 + 1)) w) rfl ?_
                    refine kx_be (t := 70) rfl rfl (fun (m45 : ¬ (0 ≤ nI k ∧ nI k < nI s)) => ?_) (fun (m45 : (0 ≤ nI k ∧ nI k < nI s)) => ?_)
                    · exact absurd hp m45
                    · refine kx_st 0 (pc' := 48) (L' := [some (.ref 65), some (.int (nI k)), some (.int 1), some (.int c), some (.int 0)]) (st' := []) (h' := kv_wd (kv_up g 64 1 (g 64 1 + 1)) w) rfl ?_
                      refine kx_st 1 (pc' := 50) (L' := [some (.ref 65), some (.int (nI k)), some (.int 1), some (.int c), some (.int 0)]) (st' := [.int 0]) (h' := kv_wd (kv_up g 64 1 (g 64 1 + 1)) w) rfl ?_
                      refine kx_st 1 (pc' := 70) (L' := [some (.ref 65), some (.int (nI k)), some (.int 1), some (.int c), some (.int 0)]) (st' := []) (h' := kv_wd (kv_up g 64 1 (g 64 1 + 1)) w) rfl ?_
                      refine kx_st 2 (pc' := 73) (L' := [some (.ref 65), some (.int (nI k)), some (.int 1), some (.int c), some (.int 0)]) (st' := [.int (-1000000001), .ref 65]) (h' := kv_wd (kv_up g 64 1 (g 64 1 + 1)) w) rfl ?_
                      refine kx_call (z := 131) (as := [.ref 65, .int (-1000000001)]) (rest := []) (v := some (.int (-1000000001))) (h1 := kv_wd (kv_up (kv_up g 64 1 (g 64 1 + 1)) 70 1 ((kv_up g 64 1 (g 64 1 + 1)) 70 1 + 1)) w) rfl (ev_errs (d := 898) (-1000000001) 1 (by decide) (by decide)) ?_
                      refine kx_st 0 (pc' := 76) (L' := [some (.ref 65), some (.int (nI k)), some (.int 1), some (.int c), some (.int 0)]) (st' := [.int (-1000000001)]) (h' := kv_wd (kv_up (kv_up g 64 1 (g 64 1 + 1)) 70 1 ((kv_up g 64 1 (g 64 1 + 1)) 70 1 + 1)) w) rfl ?_
                      refine kx_ret (v := some (.int (-1000000001))) rfl ?_
                      exact ⟨rfl, _, _, rfl, kx_Rl_e hR⟩
                  · exact absurd m30 hv
      · by_cases hv : 0 ≤ c ∧ c ≤ 1
        · rcases kx_b1 hv with rfl | rfl
          · refine kx_two (by decide) (Nat.le_of_ble_eq_true rfl) (by decide) (Nat.le_of_ble_eq_true rfl) ?_
            refine kx_st 0 (pc' := 0) (L' := [some (.ref 0), some (.int (nI k)), some (.int 2), some (.int 0), none, none]) (st' := []) (h' := kv_wd g w) rfl ?_
            refine kx_st 2 (pc' := 2) (L' := [some (.ref 0), some (.int (nI k)), some (.int 2), some (.int 0), none, none]) (st' := [.int 2, .int 2]) (h' := kv_wd g w) rfl ?_
            refine kx_st 1 (pc' := 5) (L' := [some (.ref 0), some (.int (nI k)), some (.int 2), some (.int 0), none, none]) (st' := []) (h' := kv_wd g w) rfl ?_
            refine kx_st 6 (pc' := 18) (L' := [some (.ref 0), some (.int (nI k)), some (.int 2), some (.int 0), some (.int 1), none]) (st' := [.int (nI k), .ref 1]) (h' := kv_wd g w) rfl ?_
            refine kx_call (z := 11) (as := [.ref 1, .int (nI k)]) (rest := []) (v := some (.int (kx_b (0 ≤ nI k ∧ nI k < nI s)))) (h1 := kv_wd g w) rfl (ev_isPersonS (d := 898) (g := g) (s := s) b1 (nI k)) ?_
            refine kx_st 0 (pc' := 21) (L' := [some (.ref 0), some (.int (nI k)), some (.int 2), some (.int 0), some (.int 1), none]) (st' := [.int (kx_b (0 ≤ nI k ∧ nI k < nI s))]) (h' := kv_wd g w) rfl ?_
            refine kx_be (t := 41) rfl rfl (fun (h21 : ¬ (0 ≤ nI k ∧ nI k < nI s)) => ?_) (fun (h21 : (0 ≤ nI k ∧ nI k < nI s)) => ?_)
            · exact absurd hp h21
            · refine kx_st 0 (pc' := 24) (L' := [some (.ref 0), some (.int (nI k)), some (.int 2), some (.int 0), some (.int 1), none]) (st' := []) (h' := kv_wd g w) rfl ?_
              refine kx_st 2 (pc' := 26) (L' := [some (.ref 0), some (.int (nI k)), some (.int 2), some (.int 0), some (.int 1), none]) (st' := [.int 2, .int 2]) (h' := kv_wd g w) rfl ?_
              refine kx_call (z := 124) (as := [.int 2, .int 2]) (rest := []) (v := some (.int (kx_b (0 ≤ (2 : Int32) ∧ (2 : Int32) ≤ 2)))) (h1 := kv_wd g w) rfl (ev_within (d := 898) 2 2) ?_
              refine kx_st 0 (pc' := 29) (L' := [some (.ref 0), some (.int (nI k)), some (.int 2), some (.int 0), some (.int 1), none]) (st' := [.int (kx_b (0 ≤ (2 : Int32) ∧ (2 : Int32) ≤ 2))]) (h' := kv_wd g w) rfl ?_
              refine kx_be (t := 41) rfl rfl (fun (h29 : ¬ (0 ≤ (2 : Int32) ∧ (2 : Int32) ≤ 2)) => ?_) (fun (h29 : (0 ≤ (2 : Int32) ∧ (2 : Int32) ≤ 2)) => ?_)
              · exact absurd hw h29
              · refine kx_st 0 (pc' := 32) (L' := [some (.ref 0), some (.int (nI k)), some (.int 2), some (.int 0), some (.int 1), none]) (st' := []) (h' := kv_wd g w) rfl ?_
                refine kx_st 2 (pc' := 35) (L' := [some (.ref 0), some (.int (nI k)), some (.int 2), some (.int 0), some (.int 1), none]) (st' := [.int 1, .int 0]) (h' := kv_wd g w) rfl ?_
                refine kx_call (z := 124) (as := [.int 0, .int 1]) (rest := []) (v := some (.int (kx_b (0 ≤ (0 : Int32) ∧ (0 : Int32) ≤ 1)))) (h1 := kv_wd g w) rfl (ev_within (d := 898) 0 1) ?_
                refine kx_st 0 (pc' := 38) (L' := [some (.ref 0), some (.int (nI k)), some (.int 2), some (.int 0), some (.int 1), none]) (st' := [.int (kx_b (0 ≤ (0 : Int32) ∧ (0 : Int32) ≤ 1))]) (h' := kv_wd g w) rfl ?_
                refine kx_bn (t := 47) rfl rfl (fun (h38 : (0 ≤ (0 : Int32) ∧ (0 : Int32) ≤ 1)) => ?_) (fun (h38 : ¬ (0 ≤ (0 : Int32) ∧ (0 : Int32) ≤ 1)) => ?_)
                · refine kx_st 4 (pc' := 53) (L' := [some (.ref 0), some (.int (nI k)), some (.int 2), some (.int 0), some (.int 1), none]) (st' := [.int 2, .int (nI k), .ref 1]) (h' := kv_wd g w) rfl ?_
                  refine kx_call (z := 16) (as := [.ref 1, .int (nI k), .int 2]) (rest := []) (v := some (.int (if (2 : Int32) = 2 then kx_b ((0 ≤ nI k ∧ nI k < g 1 0) ∧ ((g 1 1 >>> (nI k &&& 31)) &&& 1) = 1) else if (2 : Int32) = 0 then g 3 k else g 4 k))) (h1 := kv_wd g w) rfl (ev_personHas (d := 896) k (by omega) 2) ?_
                  refine kx_st 0 (pc' := 56) (L' := [some (.ref 0), some (.int (nI k)), some (.int 2), some (.int 0), some (.int 1), none]) (st' := [.int (if (2 : Int32) = 2 then kx_b ((0 ≤ nI k ∧ nI k < g 1 0) ∧ ((g 1 1 >>> (nI k &&& 31)) &&& 1) = 1) else if (2 : Int32) = 0 then g 3 k else g 4 k)]) (h' := kv_wd g w) rfl ?_
                  refine kx_st 3 (pc' := 60) (L' := [some (.ref 0), some (.int (nI k)), some (.int 2), some (.int 0), some (.int 1), some (.int (if (2 : Int32) = 2 then kx_b ((0 ≤ nI k ∧ nI k < g 1 0) ∧ ((g 1 1 >>> (nI k &&& 31)) &&& 1) = 1) else if (2 : Int32) = 0 then g 3 k else g 4 k))]) (st' := [.int 2, .int 2]) (h' := kv_wd g w) rfl ?_
                  refine kx_st 1 (pc' := 63) (L' := [some (.ref 0), some (.int (nI k)), some (.int 2), some (.int 0), some (.int 1), some (.int (if (2 : Int32) = 2 then kx_b ((0 ≤ nI k ∧ nI k < g 1 0) ∧ ((g 1 1 >>> (nI k &&& 31)) &&& 1) = 1) else if (2 : Int32) = 0 then g 3 k else g 4 k))]) (st' := []) (h' := kv_wd g w) rfl ?_
                  refine kx_st 5 (pc' := 70) (L' := [some (.ref 0), some (.int (nI k)), some (.int 2), some (.int 0), some (.int 1), some (.int (if (2 : Int32) = 2 then kx_b ((0 ≤ nI k ∧ nI k < g 1 0) ∧ ((g 1 1 >>> (nI k &&& 31)) &&& 1) = 1) else if (2 : Int32) = 0 then g 3 k else g 4 k))]) (st' := [.int 1, .int 0, .int (nI k), .ref 1]) (h' := kv_wd g w) rfl ?_
                  refine kx_st 1 (pc' := 77) (L' := [some (.ref 0), some (.int (nI k)), some (.int 2), some (.int 0), some (.int 1), some (.int (if (2 : Int32) = 2 then kx_b ((0 ≤ nI k ∧ nI k < g 1 0) ∧ ((g 1 1 >>> (nI k &&& 31)) &&& 1) = 1) else if (2 : Int32) = 0 then g 3 k else g 4 k))]) (st' := [.int (nI k), .ref 1]) (h' := kv_wd g w) rfl ?_
                  refine kx_st 1 (pc' := 78) (L' := [some (.ref 0), some (.int (nI k)), some (.int 2), some (.int 0), some (.int 1), some (.int (if (2 : Int32) = 2 then kx_b ((0 ≤ nI k ∧ nI k < g 1 0) ∧ ((g 1 1 >>> (nI k &&& 31)) &&& 1) = 1) else if (2 : Int32) = 0 then g 3 k else g 4 k))]) (st' := [.int 0, .int (nI k), .ref 1]) (h' := kv_wd g w) rfl ?_
                  refine kx_call (z := 15) (as := [.ref 1, .int (nI k), .int 0]) (rest := []) (v := none) (h1 := kv_wd (kv_up g 1 1 (g 1 1 &&& ((1 <<< (nI k &&& 31)) ^^^ (-1)))) w) rfl (ev_setThere_0 (d := 897) s k b1 a2 hks) ?_
                  refine kx_st 0 (pc' := 81) (L' := [some (.ref 0), some (.int (nI k)), some (.int 2), some (.int 0), some (.int 1), some (.int (if (2 : Int32) = 2 then kx_b ((0 ≤ nI k ∧ nI k < g 1 0) ∧ ((g 1 1 >>> (nI k &&& 31)) &&& 1) = 1) else if (2 : Int32) = 0 then g 3 k else g 4 k))]) (st' := []) (h' := kv_wd (kv_up g 1 1 (g 1 1 &&& ((1 <<< (nI k &&& 31)) ^^^ (-1)))) w) rfl ?_
                  refine kx_st 2 (pc' := 99) (L' := [some (.ref 0), some (.int (nI k)), some (.int 2), some (.int 0), some (.int 1), some (.int (if (2 : Int32) = 2 then kx_b ((0 ≤ nI k ∧ nI k < g 1 0) ∧ ((g 1 1 >>> (nI k &&& 31)) &&& 1) = 1) else if (2 : Int32) = 0 then g 3 k else g 4 k))]) (st' := [.int (if (2 : Int32) = 2 then kx_b ((0 ≤ nI k ∧ nI k < g 1 0) ∧ ((g 1 1 >>> (nI k &&& 31)) &&& 1) = 1) else if (2 : Int32) = 0 then g 3 k else g 4 k)]) (h' := kv_wd (kv_up g 1 1 (g 1 1 &&& ((1 <<< (nI k &&& 31)) ^^^ (-1)))) w) rfl ?_
                  refine kx_ret (v := some (.int (if (2 : Int32) = 2 then kx_b ((0 ≤ nI k ∧ nI k < g 1 0) ∧ ((g 1 1 >>> (nI k &&& 31)) &&& 1) = 1) else if (2 : Int32) = 0 then g 3 k else g 4 k))) rfl ?_
                  refine ⟨_, _, _, rfl, rfl, ?_⟩
                  refine kx_st 0 (pc' := 0) (L' := [some (.ref 65), some (.int (nI k)), some (.int 2), some (.int 0), none]) (st' := []) (h' := kv_wd (kv_up g 1 1 (g 1 1 &&& ((1 <<< (nI k &&& 31)) ^^^ (-1)))) w) rfl ?_
                  refine kx_st 2 (pc' := 2) (L' := [some (.ref 65), some (.int (nI k)), some (.int 2), some (.int 0), none]) (st' := [.int 2, .int 2]) (h' := kv_wd (kv_up g 1 1 (g 1 1 &&& ((1 <<< (nI k &&& 31)) ^^^ (-1)))) w) rfl ?_
                  refine kx_st 1 (pc' := 5) (L' := [some (.ref 65), some (.int (nI k)), some (.int 2), some (.int 0), none]) (st' := []) (h' := kv_wd (kv_up g 1 1 (g 1 1 &&& ((1 <<< (nI k &&& 31)) ^^^ (-1)))) w) rfl ?_
                  refine kx_st 3 (pc' := 8) (L' := [some (.ref 65), some (.int (nI k)), some (.int 2), some (.int 0), none]) (st' := [.int 1, .int 0, .int 0]) (h' := kv_wd (kv_up g 1 1 (g 1 1 &&& ((1 <<< (nI k &&& 31)) ^^^ (-1)))) w) rfl ?_
                  refine kx_call (z := 130) (as := [.int 0, .int 0, .int 1]) (rest := []) (v := some (.int (kx_b (0 ≤ (0 : Int32) ∧ (0 : Int32) ≤ 1)))) (h1 := kv_wd (kv_up g 1 1 (g 1 1 &&& ((1 <<< (nI k &&& 31)) ^^^ (-1)))) w) rfl (ev_in (d := 898) 0 0 1) ?_
                  refine kx_st 0 (pc' := 11) (L' := [some (.ref 65), some (.int (nI k)), some (.int 2), some (.int 0), none]) (st' := [.int (kx_b (0 ≤ (0 : Int32) ∧ (0 : Int32) ≤ 1))]) (h' := kv_wd (kv_up g 1 1 (g 1 1 &&& ((1 <<< (nI k &&& 31)) ^^^ (-1)))) w) rfl ?_
                  refine kx_st 4 (pc' := 42) (L' := [some (.ref 65), some (.int (nI k)), some (.int 2), some (.int 0), some (.int (kx_b (0 ≤ (0 : Int32) ∧ (0 : Int32) ≤ 1)))]) (st' := [.int (nI k), .ref 65]) (h' := kv_wd (kv_up g 1 1 (g 1 1 &&& ((1 <<< (nI k &&& 31)) ^^^ (-1)))) w) rfl ?_
                  refine kx_call (z := 138) (as := [.ref 65, .int (nI k)]) (rest := []) (v := some (.int (kx_b (0 ≤ nI k ∧ nI k < nI s)))) (h1 := kv_wd (kv_up g 1 1 (g 1 1 &&& ((1 <<< (nI k &&& 31)) ^^^ (-1)))) w) rfl (ev_mPersonS (d := 897) (g := (kv_up g 1 1 (g 1 1 &&& ((1 <<< (nI k &&& 31)) ^^^ (-1))))) (s := s) b2 a2 (nI k)) ?_
                  refine kx_st 0 (pc' := 45) (L' := [some (.ref 65), some (.int (nI k)), some (.int 2), some (.int 0), some (.int (kx_b (0 ≤ (0 : Int32) ∧ (0 : Int32) ≤ 1)))]) (st' := [.int (kx_b (0 ≤ nI k ∧ nI k < nI s))]) (h' := kv_wd (kv_up g 1 1 (g 1 1 &&& ((1 <<< (nI k &&& 31)) ^^^ (-1)))) w) rfl ?_
                  refine kx_be (t := 70) rfl rfl (fun (m45 : ¬ (0 ≤ nI k ∧ nI k < nI s)) => ?_) (fun (m45 : (0 ≤ nI k ∧ nI k < nI s)) => ?_)
                  · exact absurd hp m45
                  · refine kx_st 0 (pc' := 48) (L' := [some (.ref 65), some (.int (nI k)), some (.int 2), some (.int 0), some (.int (kx_b (0 ≤ (0 : Int32) ∧ (0 : Int32) ≤ 1)))]) (st' := []) (h' := kv_wd (kv_up g 1 1 (g 1 1 &&& ((1 <<< (nI k &&& 31)) ^^^ (-1)))) w) rfl ?_
                    refine kx_st 1 (pc' := 50) (L' := [some (.ref 65), some (.int (nI k)), some (.int 2), some (.int 0), some (.int (kx_b (0 ≤ (0 : Int32) ∧ (0 : Int32) ≤ 1)))]) (st' := [.int (kx_b (0 ≤ (0 : Int32) ∧ (0 : Int32) ≤ 1))]) (h' := kv_wd (kv_up g 1 1 (g 1 1 &&& ((1 <<< (nI k &&& 31)) ^^^ (-1)))) w) rfl ?_
                    refine kx_be (t := 70) rfl rfl (fun (m50 : ¬ (0 ≤ (0 : Int32) ∧ (0 : Int32) ≤ 1)) => ?_) (fun (m50 : (0 ≤ (0 : Int32) ∧ (0 : Int32) ≤ 1)) => ?_)
                    · exact absurd hv m50
                    · refine kx_st 0 (pc' := 53) (L' := [some (.ref 65), some (.int (nI k)), some (.int 2), some (.int 0), some (.int (kx_b (0 ≤ (0 : Int32) ∧ (0 : Int32) ≤ 1)))]) (st' := []) (h' := kv_wd (kv_up g 1 1 (g 1 1 &&& ((1 <<< (nI k &&& 31)) ^^^ (-1)))) w) rfl ?_
                      refine kx_st 9 (pc' := 64) (L' := [some (.ref 65), some (.int (nI k)), some (.int 2), some (.int 0), some (.int (kx_b (0 ≤ (0 : Int32) ∧ (0 : Int32) ≤ 1)))]) (st' := [.int 0, .int (20 + (nI k)), .ref 65]) (h' := kv_wd (kv_up g 1 1 (g 1 1 &&& ((1 <<< (nI k &&& 31)) ^^^ (-1)))) w) rfl ?_
                      refine kx_call (z := 142) (as := [.ref 65, .int (20 + (nI k)), .int 0]) (rest := []) (v := some (.int ((kv_up g 1 1 (g 1 1 &&& ((1 <<< (nI k &&& 31)) ^^^ (-1)))) 66 (20 + k)))) (h1 := kv_wd (kv_up (kv_up g 1 1 (g 1 1 &&& ((1 <<< (nI k &&& 31)) ^^^ (-1)))) 66 (20 + k) 0) w) rfl (by rw [show (20 : Int32) + nI k = nI (20 + k) from kx_nadd 20 k]; exact ev_becomes (d := 898) (20 + k) (by omega) 0) ?_
                      refine kx_st 0 (pc' := 67) (L' := [some (.ref 65), some (.int (nI k)), some (.int 2), some (.int 0), some (.int (kx_b (0 ≤ (0 : Int32) ∧ (0 : Int32) ≤ 1)))]) (st' := [.int ((kv_up g 1 1 (g 1 1 &&& ((1 <<< (nI k &&& 31)) ^^^ (-1)))) 66 (20 + k))]) (h' := kv_wd (kv_up (kv_up g 1 1 (g 1 1 &&& ((1 <<< (nI k &&& 31)) ^^^ (-1)))) 66 (20 + k) 0) w) rfl ?_
                      refine kx_st 1 (pc' := 76) (L' := [some (.ref 65), some (.int (nI k)), some (.int 2), some (.int 0), some (.int (kx_b (0 ≤ (0 : Int32) ∧ (0 : Int32) ≤ 1)))]) (st' := [.int ((kv_up g 1 1 (g 1 1 &&& ((1 <<< (nI k &&& 31)) ^^^ (-1)))) 66 (20 + k))]) (h' := kv_wd (kv_up (kv_up g 1 1 (g 1 1 &&& ((1 <<< (nI k &&& 31)) ^^^ (-1)))) 66 (20 + k) 0) w) rfl ?_
                      refine kx_ret (v := some (.int ((kv_up g 1 1 (g 1 1 &&& ((1 <<< (nI k &&& 31)) ^^^ (-1)))) 66 (20 + k)))) rfl ?_
                      exact ⟨by rw [if_pos rfl, b1, c1, kx_b_congr (kx_tv a2 a3 hks)]; exact congrArg (fun z => some (Value.int z)) (c2 k hks), _, _, rfl, kx_Rl_hn hR q (fun b hb hb2 => by repeat rw [kv_up_ne (by omega)]) (fun z hz => rfl) ⟨rfl, rfl⟩ (kx_hn_mk ⟨H1, H2, H3, H4, H5, hz, l0, l1⟩ (kx_H1_t (t := t) (x := _) b1 a2 c1 a3 hks rfl rfl rfl (Or.inr ⟨rfl, by rw [← c1]; rfl⟩) H1) (kx_H2_t (by omega) (by decide) H2) (kx_H3_cg rfl (kx_upn (r := g 66) (by omega)) H3) (kx_H4_cg rfl (fun _ _ => rfl) (fun j hj => kx_upn (r := g 66) (by omega)) H4) (kx_H5_cg rfl (fun _ _ => rfl) (fun j hj => kx_upn (r := g 66) (by omega)) H5) (hz.trans (kx_upn (r := g 66) (by omega)).symm) ⟨rfl, rfl, rfl, rfl⟩ (fun j hj => kx_upn (r := g 66) (by omega)))⟩
                · exact absurd hv h38
          · refine kx_two (by decide) (Nat.le_of_ble_eq_true rfl) (by decide) (Nat.le_of_ble_eq_true rfl) ?_
            refine kx_st 0 (pc' := 0) (L' := [some (.ref 0), some (.int (nI k)), some (.int 2), some (.int 1), none, none]) (st' := []) (h' := kv_wd g w) rfl ?_
            refine kx_st 2 (pc' := 2) (L' := [some (.ref 0), some (.int (nI k)), some (.int 2), some (.int 1), none, none]) (st' := [.int 2, .int 2]) (h' := kv_wd g w) rfl ?_
            refine kx_st 1 (pc' := 5) (L' := [some (.ref 0), some (.int (nI k)), some (.int 2), some (.int 1), none, none]) (st' := []) (h' := kv_wd g w) rfl ?_
            refine kx_st 6 (pc' := 18) (L' := [some (.ref 0), some (.int (nI k)), some (.int 2), some (.int 1), some (.int 1), none]) (st' := [.int (nI k), .ref 1]) (h' := kv_wd g w) rfl ?_
            refine kx_call (z := 11) (as := [.ref 1, .int (nI k)]) (rest := []) (v := some (.int (kx_b (0 ≤ nI k ∧ nI k < nI s)))) (h1 := kv_wd g w) rfl (ev_isPersonS (d := 898) (g := g) (s := s) b1 (nI k)) ?_
            refine kx_st 0 (pc' := 21) (L' := [some (.ref 0), some (.int (nI k)), some (.int 2), some (.int 1), some (.int 1), none]) (st' := [.int (kx_b (0 ≤ nI k ∧ nI k < nI s))]) (h' := kv_wd g w) rfl ?_
            refine kx_be (t := 41) rfl rfl (fun (h21 : ¬ (0 ≤ nI k ∧ nI k < nI s)) => ?_) (fun (h21 : (0 ≤ nI k ∧ nI k < nI s)) => ?_)
            · exact absurd hp h21
            · refine kx_st 0 (pc' := 24) (L' := [some (.ref 0), some (.int (nI k)), some (.int 2), some (.int 1), some (.int 1), none]) (st' := []) (h' := kv_wd g w) rfl ?_
              refine kx_st 2 (pc' := 26) (L' := [some (.ref 0), some (.int (nI k)), some (.int 2), some (.int 1), some (.int 1), none]) (st' := [.int 2, .int 2]) (h' := kv_wd g w) rfl ?_
              refine kx_call (z := 124) (as := [.int 2, .int 2]) (rest := []) (v := some (.int (kx_b (0 ≤ (2 : Int32) ∧ (2 : Int32) ≤ 2)))) (h1 := kv_wd g w) rfl (ev_within (d := 898) 2 2) ?_
              refine kx_st 0 (pc' := 29) (L' := [some (.ref 0), some (.int (nI k)), some (.int 2), some (.int 1), some (.int 1), none]) (st' := [.int (kx_b (0 ≤ (2 : Int32) ∧ (2 : Int32) ≤ 2))]) (h' := kv_wd g w) rfl ?_
              refine kx_be (t := 41) rfl rfl (fun (h29 : ¬ (0 ≤ (2 : Int32) ∧ (2 : Int32) ≤ 2)) => ?_) (fun (h29 : (0 ≤ (2 : Int32) ∧ (2 : Int32) ≤ 2)) => ?_)
              · exact absurd hw h29
              · refine kx_st 0 (pc' := 32) (L' := [some (.ref 0), some (.int (nI k)), some (.int 2), some (.int 1), some (.int 1), none]) (st' := []) (h' := kv_wd g w) rfl ?_
                refine kx_st 2 (pc' := 35) (L' := [some (.ref 0), some (.int (nI k)), some (.int 2), some (.int 1), some (.int 1), none]) (st' := [.int 1, .int 1]) (h' := kv_wd g w) rfl ?_
                refine kx_call (z := 124) (as := [.int 1, .int 1]) (rest := []) (v := some (.int (kx_b (0 ≤ (1 : Int32) ∧ (1 : Int32) ≤ 1)))) (h1 := kv_wd g w) rfl (ev_within (d := 898) 1 1) ?_
                refine kx_st 0 (pc' := 38) (L' := [some (.ref 0), some (.int (nI k)), some (.int 2), some (.int 1), some (.int 1), none]) (st' := [.int (kx_b (0 ≤ (1 : Int32) ∧ (1 : Int32) ≤ 1))]) (h' := kv_wd g w) rfl ?_
                refine kx_bn (t := 47) rfl rfl (fun (h38 : (0 ≤ (1 : Int32) ∧ (1 : Int32) ≤ 1)) => ?_) (fun (h38 : ¬ (0 ≤ (1 : Int32) ∧ (1 : Int32) ≤ 1)) => ?_)
                · refine kx_st 4 (pc' := 53) (L' := [some (.ref 0), some (.int (nI k)), some (.int 2), some (.int 1), some (.int 1), none]) (st' := [.int 2, .int (nI k), .ref 1]) (h' := kv_wd g w) rfl ?_
                  refine kx_call (z := 16) (as := [.ref 1, .int (nI k), .int 2]) (rest := []) (v := some (.int (if (2 : Int32) = 2 then kx_b ((0 ≤ nI k ∧ nI k < g 1 0) ∧ ((g 1 1 >>> (nI k &&& 31)) &&& 1) = 1) else if (2 : Int32) = 0 then g 3 k else g 4 k))) (h1 := kv_wd g w) rfl (ev_personHas (d := 896) k (by omega) 2) ?_
                  refine kx_st 0 (pc' := 56) (L' := [some (.ref 0), some (.int (nI k)), some (.int 2), some (.int 1), some (.int 1), none]) (st' := [.int (if (2 : Int32) = 2 then kx_b ((0 ≤ nI k ∧ nI k < g 1 0) ∧ ((g 1 1 >>> (nI k &&& 31)) &&& 1) = 1) else if (2 : Int32) = 0 then g 3 k else g 4 k)]) (h' := kv_wd g w) rfl ?_
                  refine kx_st 3 (pc' := 60) (L' := [some (.ref 0), some (.int (nI k)), some (.int 2), some (.int 1), some (.int 1), some (.int (if (2 : Int32) = 2 then kx_b ((0 ≤ nI k ∧ nI k < g 1 0) ∧ ((g 1 1 >>> (nI k &&& 31)) &&& 1) = 1) else if (2 : Int32) = 0 then g 3 k else g 4 k))]) (st' := [.int 2, .int 2]) (h' := kv_wd g w) rfl ?_
                  refine kx_st 1 (pc' := 63) (L' := [some (.ref 0), some (.int (nI k)), some (.int 2), some (.int 1), some (.int 1), some (.int (if (2 : Int32) = 2 then kx_b ((0 ≤ nI k ∧ nI k < g 1 0) ∧ ((g 1 1 >>> (nI k &&& 31)) &&& 1) = 1) else if (2 : Int32) = 0 then g 3 k else g 4 k))]) (st' := []) (h' := kv_wd g w) rfl ?_
                  refine kx_st 5 (pc' := 70) (L' := [some (.ref 0), some (.int (nI k)), some (.int 2), some (.int 1), some (.int 1), some (.int (if (2 : Int32) = 2 then kx_b ((0 ≤ nI k ∧ nI k < g 1 0) ∧ ((g 1 1 >>> (nI k &&& 31)) &&& 1) = 1) else if (2 : Int32) = 0 then g 3 k else g 4 k))]) (st' := [.int 1, .int 1, .int (nI k), .ref 1]) (h' := kv_wd g w) rfl ?_
                  refine kx_st 1 (pc' := 73) (L' := [some (.ref 0), some (.int (nI k)), some (.int 2), some (.int 1), some (.int 1), some (.int (if (2 : Int32) = 2 then kx_b ((0 ≤ nI k ∧ nI k < g 1 0) ∧ ((g 1 1 >>> (nI k &&& 31)) &&& 1) = 1) else if (2 : Int32) = 0 then g 3 k else g 4 k))]) (st' := [.int (nI k), .ref 1]) (h' := kv_wd g w) rfl ?_
                  refine kx_st 2 (pc' := 78) (L' := [some (.ref 0), some (.int (nI k)), some (.int 2), some (.int 1), some (.int 1), some (.int (if (2 : Int32) = 2 then kx_b ((0 ≤ nI k ∧ nI k < g 1 0) ∧ ((g 1 1 >>> (nI k &&& 31)) &&& 1) = 1) else if (2 : Int32) = 0 then g 3 k else g 4 k))]) (st' := [.int 1, .int (nI k), .ref 1]) (h' := kv_wd g w) rfl ?_
                  refine kx_call (z := 15) (as := [.ref 1, .int (nI k), .int 1]) (rest := []) (v := none) (h1 := kv_wd (kv_up g 1 1 (g 1 1 ||| 1 <<< (nI k &&& 31))) w) rfl (ev_setThere_1 (d := 897) s k b1 a2 hks) ?_
                  refine kx_st 0 (pc' := 81) (L' := [some (.ref 0), some (.int (nI k)), some (.int 2), some (.int 1), some (.int 1), some (.int (if (2 : Int32) = 2 then kx_b ((0 ≤ nI k ∧ nI k < g 1 0) ∧ ((g 1 1 >>> (nI k &&& 31)) &&& 1) = 1) else if (2 : Int32) = 0 then g 3 k else g 4 k))]) (st' := []) (h' := kv_wd (kv_up g 1 1 (g 1 1 ||| 1 <<< (nI k &&& 31))) w) rfl ?_
                  refine kx_st 2 (pc' := 99) (L' := [some (.ref 0), some (.int (nI k)), some (.int 2), some (.int 1), some (.int 1), some (.int (if (2 : Int32) = 2 then kx_b ((0 ≤ nI k ∧ nI k < g 1 0) ∧ ((g 1 1 >>> (nI k &&& 31)) &&& 1) = 1) else if (2 : Int32) = 0 then g 3 k else g 4 k))]) (st' := [.int (if (2 : Int32) = 2 then kx_b ((0 ≤ nI k ∧ nI k < g 1 0) ∧ ((g 1 1 >>> (nI k &&& 31)) &&& 1) = 1) else if (2 : Int32) = 0 then g 3 k else g 4 k)]) (h' := kv_wd (kv_up g 1 1 (g 1 1 ||| 1 <<< (nI k &&& 31))) w) rfl ?_
                  refine kx_ret (v := some (.int (if (2 : Int32) = 2 then kx_b ((0 ≤ nI k ∧ nI k < g 1 0) ∧ ((g 1 1 >>> (nI k &&& 31)) &&& 1) = 1) else if (2 : Int32) = 0 then g 3 k else g 4 k))) rfl ?_
                  refine ⟨_, _, _, rfl, rfl, ?_⟩
                  refine kx_st 0 (pc' := 0) (L' := [some (.ref 65), some (.int (nI k)), some (.int 2), some (.int 1), none]) (st' := []) (h' := kv_wd (kv_up g 1 1 (g 1 1 ||| 1 <<< (nI k &&& 31))) w) rfl ?_
                  refine kx_st 2 (pc' := 2) (L' := [some (.ref 65), some (.int (nI k)), some (.int 2), some (.int 1), none]) (st' := [.int 2, .int 2]) (h' := kv_wd (kv_up g 1 1 (g 1 1 ||| 1 <<< (nI k &&& 31))) w) rfl ?_
                  refine kx_st 1 (pc' := 5) (L' := [some (.ref 65), some (.int (nI k)), some (.int 2), some (.int 1), none]) (st' := []) (h' := kv_wd (kv_up g 1 1 (g 1 1 ||| 1 <<< (nI k &&& 31))) w) rfl ?_
                  refine kx_st 3 (pc' := 8) (L' := [some (.ref 65), some (.int (nI k)), some (.int 2), some (.int 1), none]) (st' := [.int 1, .int 0, .int 1]) (h' := kv_wd (kv_up g 1 1 (g 1 1 ||| 1 <<< (nI k &&& 31))) w) rfl ?_
                  refine kx_call (z := 130) (as := [.int 1, .int 0, .int 1]) (rest := []) (v := some (.int (kx_b (0 ≤ (1 : Int32) ∧ (1 : Int32) ≤ 1)))) (h1 := kv_wd (kv_up g 1 1 (g 1 1 ||| 1 <<< (nI k &&& 31))) w) rfl (ev_in (d := 898) 1 0 1) ?_
                  refine kx_st 0 (pc' := 11) (L' := [some (.ref 65), some (.int (nI k)), some (.int 2), some (.int 1), none]) (st' := [.int (kx_b (0 ≤ (1 : Int32) ∧ (1 : Int32) ≤ 1))]) (h' := kv_wd (kv_up g 1 1 (g 1 1 ||| 1 <<< (nI k &&& 31))) w) rfl ?_
                  refine kx_st 4 (pc' := 42) (L' := [some (.ref 65), some (.int (nI k)), some (.int 2), some (.int 1), some (.int (kx_b (0 ≤ (1 : Int32) ∧ (1 : Int32) ≤ 1)))]) (st' := [.int (nI k), .ref 65]) (h' := kv_wd (kv_up g 1 1 (g 1 1 ||| 1 <<< (nI k &&& 31))) w) rfl ?_
                  refine kx_call (z := 138) (as := [.ref 65, .int (nI k)]) (rest := []) (v := some (.int (kx_b (0 ≤ nI k ∧ nI k < nI s)))) (h1 := kv_wd (kv_up g 1 1 (g 1 1 ||| 1 <<< (nI k &&& 31))) w) rfl (ev_mPersonS (d := 897) (g := (kv_up g 1 1 (g 1 1 ||| 1 <<< (nI k &&& 31)))) (s := s) b2 a2 (nI k)) ?_
                  refine kx_st 0 (pc' := 45) (L' := [some (.ref 65), some (.int (nI k)), some (.int 2), some (.int 1), some (.int (kx_b (0 ≤ (1 : Int32) ∧ (1 : Int32) ≤ 1)))]) (st' := [.int (kx_b (0 ≤ nI k ∧ nI k < nI s))]) (h' := kv_wd (kv_up g 1 1 (g 1 1 ||| 1 <<< (nI k &&& 31))) w) rfl ?_
                  refine kx_be (t := 70) rfl rfl (fun (m45 : ¬ (0 ≤ nI k ∧ nI k < nI s)) => ?_) (fun (m45 : (0 ≤ nI k ∧ nI k < nI s)) => ?_)
                  · exact absurd hp m45
                  · refine kx_st 0 (pc' := 48) (L' := [some (.ref 65), some (.int (nI k)), some (.int 2), some (.int 1), some (.int (kx_b (0 ≤ (1 : Int32) ∧ (1 : Int32) ≤ 1)))]) (st' := []) (h' := kv_wd (kv_up g 1 1 (g 1 1 ||| 1 <<< (nI k &&& 31))) w) rfl ?_
                    refine kx_st 1 (pc' := 50) (L' := [some (.ref 65), some (.int (nI k)), some (.int 2), some (.int 1), some (.int (kx_b (0 ≤ (1 : Int32) ∧ (1 : Int32) ≤ 1)))]) (st' := [.int (kx_b (0 ≤ (1 : Int32) ∧ (1 : Int32) ≤ 1))]) (h' := kv_wd (kv_up g 1 1 (g 1 1 ||| 1 <<< (nI k &&& 31))) w) rfl ?_
                    refine kx_be (t := 70) rfl rfl (fun (m50 : ¬ (0 ≤ (1 : Int32) ∧ (1 : Int32) ≤ 1)) => ?_) (fun (m50 : (0 ≤ (1 : Int32) ∧ (1 : Int32) ≤ 1)) => ?_)
                    · exact absurd hv m50
                    · refine kx_st 0 (pc' := 53) (L' := [some (.ref 65), some (.int (nI k)), some (.int 2), some (.int 1), some (.int (kx_b (0 ≤ (1 : Int32) ∧ (1 : Int32) ≤ 1)))]) (st' := []) (h' := kv_wd (kv_up g 1 1 (g 1 1 ||| 1 <<< (nI k &&& 31))) w) rfl ?_
                      refine kx_st 9 (pc' := 64) (L' := [some (.ref 65), some (.int (nI k)), some (.int 2), some (.int 1), some (.int (kx_b (0 ≤ (1 : Int32) ∧ (1 : Int32) ≤ 1)))]) (st' := [.int 1, .int (20 + (nI k)), .ref 65]) (h' := kv_wd (kv_up g 1 1 (g 1 1 ||| 1 <<< (nI k &&& 31))) w) rfl ?_
                      refine kx_call (z := 142) (as := [.ref 65, .int (20 + (nI k)), .int 1]) (rest := []) (v := some (.int ((kv_up g 1 1 (g 1 1 ||| 1 <<< (nI k &&& 31))) 66 (20 + k)))) (h1 := kv_wd (kv_up (kv_up g 1 1 (g 1 1 ||| 1 <<< (nI k &&& 31))) 66 (20 + k) 1) w) rfl (by rw [show (20 : Int32) + nI k = nI (20 + k) from kx_nadd 20 k]; exact ev_becomes (d := 898) (20 + k) (by omega) 1) ?_
                      refine kx_st 0 (pc' := 67) (L' := [some (.ref 65), some (.int (nI k)), some (.int 2), some (.int 1), some (.int (kx_b (0 ≤ (1 : Int32) ∧ (1 : Int32) ≤ 1)))]) (st' := [.int ((kv_up g 1 1 (g 1 1 ||| 1 <<< (nI k &&& 31))) 66 (20 + k))]) (h' := kv_wd (kv_up (kv_up g 1 1 (g 1 1 ||| 1 <<< (nI k &&& 31))) 66 (20 + k) 1) w) rfl ?_
                      refine kx_st 1 (pc' := 76) (L' := [some (.ref 65), some (.int (nI k)), some (.int 2), some (.int 1), some (.int (kx_b (0 ≤ (1 : Int32) ∧ (1 : Int32) ≤ 1)))]) (st' := [.int ((kv_up g 1 1 (g 1 1 ||| 1 <<< (nI k &&& 31))) 66 (20 + k))]) (h' := kv_wd (kv_up (kv_up g 1 1 (g 1 1 ||| 1 <<< (nI k &&& 31))) 66 (20 + k) 1) w) rfl ?_
                      refine kx_ret (v := some (.int ((kv_up g 1 1 (g 1 1 ||| 1 <<< (nI k &&& 31))) 66 (20 + k)))) rfl ?_
                      exact ⟨by rw [if_pos rfl, b1, c1, kx_b_congr (kx_tv a2 a3 hks)]; exact congrArg (fun z => some (Value.int z)) (c2 k hks), _, _, rfl, kx_Rl_hn hR q (fun b hb hb2 => by repeat rw [kv_up_ne (by omega)]) (fun z hz => rfl) ⟨rfl, rfl⟩ (kx_hn_mk ⟨H1, H2, H3, H4, H5, hz, l0, l1⟩ (kx_H1_t (t := t) (x := _) b1 a2 c1 a3 hks rfl rfl rfl (Or.inl ⟨rfl, by rw [← c1]; rfl⟩) H1) (kx_H2_t (by omega) (by decide) H2) (kx_H3_cg rfl (kx_upn (r := g 66) (by omega)) H3) (kx_H4_cg rfl (fun _ _ => rfl) (fun j hj => kx_upn (r := g 66) (by omega)) H4) (kx_H5_cg rfl (fun _ _ => rfl) (fun j hj => kx_upn (r := g 66) (by omega)) H5) (hz.trans (kx_upn (r := g 66) (by omega)).symm) ⟨rfl, rfl, rfl, rfl⟩ (fun j hj => kx_upn (r := g 66) (by omega)))⟩
                · exact absurd hv h38
        · refine kx_two (by decide) (Nat.le_of_ble_eq_true rfl) (by decide) (Nat.le_of_ble_eq_true rfl) ?_
          refine kx_st 0 (pc' := 0) (L' := [some (.ref 0), some (.int (nI k)), some (.int 2), some (.int c), none, none]) (st' := []) (h' := kv_wd g w) rfl ?_
          refine kx_st 2 (pc' := 2) (L' := [some (.ref 0), some (.int (nI k)), some (.int 2), some (.int c), none, none]) (st' := [.int 2, .int 2]) (h' := kv_wd g w) rfl ?_
          refine kx_st 1 (pc' := 5) (L' := [some (.ref 0), some (.int (nI k)), some (.int 2), some (.int c), none, none]) (st' := []) (h' := kv_wd g w) rfl ?_
          refine kx_st 6 (pc' := 18) (L' := [some (.ref 0), some (.int (nI k)), some (.int 2), some (.int c), some (.int 1), none]) (st' := [.int (nI k), .ref 1]) (h' := kv_wd g w) rfl ?_
          refine kx_call (z := 11) (as := [.ref 1, .int (nI k)]) (rest := []) (v := some (.int (kx_b (0 ≤ nI k ∧ nI k < nI s)))) (h1 := kv_wd g w) rfl (ev_isPersonS (d := 898) (g := g) (s := s) b1 (nI k)) ?_
          refine kx_st 0 (pc' := 21) (L' := [some (.ref 0), some (.int (nI k)), some (.int 2), some (.int c), some (.int 1), none]) (st' := [.int (kx_b (0 ≤ nI k ∧ nI k < nI s))]) (h' := kv_wd g w) rfl ?_
          refine kx_be (t := 41) rfl rfl (fun (h21 : ¬ (0 ≤ nI k ∧ nI k < nI s)) => ?_) (fun (h21 : (0 ≤ nI k ∧ nI k < nI s)) => ?_)
          · refine kx_st 2 (pc' := 43) (L' := [some (.ref 0), some (.int (nI k)), some (.int 2), some (.int c), some (.int 1), none]) (st' := [.int 1, .ref 0]) (h' := kv_wd g w) rfl ?_
            refine kx_call (z := 123) (as := [.ref 0, .int 1]) (rest := []) (v := some (.int (-1000000000 - nI 1))) (h1 := kv_wd (kv_up g 64 1 (g 64 1 + 1)) w) rfl (ev_error (d := 898) 1 (by decide) (by decide)) ?_
            refine kx_st 0 (pc' := 46) (L' := [some (.ref 0), some (.int (nI k)), some (.int 2), some (.int c), some (.int 1), none]) (st' := [.int (-1000000000 - nI 1)]) (h' := kv_wd (kv_up g 64 1 (g 64 1 + 1)) w) rfl ?_
            refine kx_ret (v := some (.int (-1000000000 - nI 1))) rfl ?_
            refine ⟨_, _, _, rfl, rfl, ?_⟩
            refine kx_st 0 (pc' := 0) (L' := [some (.ref 65), some (.int (nI k)), some (.int 2), some (.int c), none]) (st' := []) (h' := kv_wd (kv_up g 64 1 (g 64 1 + 1)) w) rfl ?_
            refine kx_st 2 (pc' := 2) (L' := [some (.ref 65), some (.int (nI k)), some (.int 2), some (.int c), none]) (st' := [.int 2, .int 2]) (h' := kv_wd (kv_up g 64 1 (g 64 1 + 1)) w) rfl ?_
            refine kx_st 1 (pc' := 5) (L' := [some (.ref 65), some (.int (nI k)), some (.int 2), some (.int c), none]) (st' := []) (h' := kv_wd (kv_up g 64 1 (g 64 1 + 1)) w) rfl ?_
            refine kx_st 3 (pc' := 8) (L' := [some (.ref 65), some (.int (nI k)), some (.int 2), some (.int c), none]) (st' := [.int 1, .int 0, .int c]) (h' := kv_wd (kv_up g 64 1 (g 64 1 + 1)) w) rfl ?_
            refine kx_call (z := 130) (as := [.int c, .int 0, .int 1]) (rest := []) (v := some (.int (kx_b (0 ≤ c ∧ c ≤ 1)))) (h1 := kv_wd (kv_up g 64 1 (g 64 1 + 1)) w) rfl (ev_in (d := 898) c 0 1) ?_
            refine kx_st 0 (pc' := 11) (L' := [some (.ref 65), some (.int (nI k)), some (.int 2), some (.int c), none]) (st' := [.int (kx_b (0 ≤ c ∧ c ≤ 1))]) (h' := kv_wd (kv_up g 64 1 (g 64 1 + 1)) w) rfl ?_
            refine kx_st 4 (pc' := 42) (L' := [some (.ref 65), some (.int (nI k)), some (.int 2), some (.int c), some (.int (kx_b (0 ≤ c ∧ c ≤ 1)))]) (st' := [.int (nI k), .ref 65]) (h' := kv_wd (kv_up g 64 1 (g 64 1 + 1)) w) rfl ?_
            refine kx_call (z := 138) (as := [.ref 65, .int (nI k)]) (rest := []) (v := some (.int (kx_b (0 ≤ nI k ∧ nI k < nI s)))) (h1 := kv_wd (kv_up g 64 1 (g 64 1 + 1)) w) rfl (ev_mPersonS (d := 897) (g := (kv_up g 64 1 (g 64 1 + 1))) (s := s) b2 a2 (nI k)) ?_
            refine kx_st 0 (pc' := 45) (L' := [some (.ref 65), some (.int (nI k)), some (.int 2), some (.int c), some (.int (kx_b (0 ≤ c ∧ c ≤ 1)))]) (st' := [.int (kx_b (0 ≤ nI k ∧ nI k < nI s))]) (h' := kv_wd (kv_up g 64 1 (g 64 1 + 1)) w) rfl ?_
            refine kx_be (t := 70) rfl rfl (fun (m45 : ¬ (0 ≤ nI k ∧ nI k < nI s)) => ?_) (fun (m45 : (0 ≤ nI k ∧ nI k < nI s)) => ?_)
            · exact absurd hp m45
            · exact absurd m45 h21
          · refine kx_st 0 (pc' := 24) (L' := [some (.ref 0), some (.int (nI k)), some (.int 2), some (.int c), some (.int 1), none]) (st' := []) (h' := kv_wd g w) rfl ?_
            refine kx_st 2 (pc' := 26) (L' := [some (.ref 0), some (.int (nI k)), some (.int 2), some (.int c), some (.int 1), none]) (st' := [.int 2, .int 2]) (h' := kv_wd g w) rfl ?_
            refine kx_call (z := 124) (as := [.int 2, .int 2]) (rest := []) (v := some (.int (kx_b (0 ≤ (2 : Int32) ∧ (2 : Int32) ≤ 2)))) (h1 := kv_wd g w) rfl (ev_within (d := 898) 2 2) ?_
            refine kx_st 0 (pc' := 29) (L' := [some (.ref 0), some (.int (nI k)), some (.int 2), some (.int c), some (.int 1), none]) (st' := [.int (kx_b (0 ≤ (2 : Int32) ∧ (2 : Int32) ≤ 2))]) (h' := kv_wd g w) rfl ?_
            refine kx_be (t := 41) rfl rfl (fun (h29 : ¬ (0 ≤ (2 : Int32) ∧ (2 : Int32) ≤ 2)) => ?_) (fun (h29 : (0 ≤ (2 : Int32) ∧ (2 : Int32) ≤ 2)) => ?_)
            · refine kx_st 2 (pc' := 43) (L' := [some (.ref 0), some (.int (nI k)), some (.int 2), some (.int c), some (.int 1), none]) (st' := [.int 1, .ref 0]) (h' := kv_wd g w) rfl ?_
              refine kx_call (z := 123) (as := [.ref 0, .int 1]) (rest := []) (v := some (.int (-1000000000 - nI 1))) (h1 := kv_wd (kv_up g 64 1 (g 64 1 + 1)) w) rfl (ev_error (d := 898) 1 (by decide) (by decide)) ?_
              refine kx_st 0 (pc' := 46) (L' := [some (.ref 0), some (.int (nI k)), some (.int 2), some (.int c), some (.int 1), none]) (st' := [.int (-1000000000 - nI 1)]) (h' := kv_wd (kv_up g 64 1 (g 64 1 + 1)) w) rfl ?_
              refine kx_ret (v := some (.int (-1000000000 - nI 1))) rfl ?_
              refine ⟨_, _, _, rfl, rfl, ?_⟩
              refine kx_st 0 (pc' := 0) (L' := [some (.ref 65), some (.int (nI k)), some (.int 2), some (.int c), none]) (st' := []) (h' := kv_wd (kv_up g 64 1 (g 64 1 + 1)) w) rfl ?_
              refine kx_st 2 (pc' := 2) (L' := [some (.ref 65), some (.int (nI k)), some (.int 2), some (.int c), none]) (st' := [.int 2, .int 2]) (h' := kv_wd (kv_up g 64 1 (g 64 1 + 1)) w) rfl ?_
              refine kx_st 1 (pc' := 5) (L' := [some (.ref 65), some (.int (nI k)), some (.int 2), some (.int c), none]) (st' := []) (h' := kv_wd (kv_up g 64 1 (g 64 1 + 1)) w) rfl ?_
              refine kx_st 3 (pc' := 8) (L' := [some (.ref 65), some (.int (nI k)), some (.int 2), some (.int c), none]) (st' := [.int 1, .int 0, .int c]) (h' := kv_wd (kv_up g 64 1 (g 64 1 + 1)) w) rfl ?_
              refine kx_call (z := 130) (as := [.int c, .int 0, .int 1]) (rest := []) (v := some (.int (kx_b (0 ≤ c ∧ c ≤ 1)))) (h1 := kv_wd (kv_up g 64 1 (g 64 1 + 1)) w) rfl (ev_in (d := 898) c 0 1) ?_
              refine kx_st 0 (pc' := 11) (L' := [some (.ref 65), some (.int (nI k)), some (.int 2), some (.int c), none]) (st' := [.int (kx_b (0 ≤ c ∧ c ≤ 1))]) (h' := kv_wd (kv_up g 64 1 (g 64 1 + 1)) w) rfl ?_
              refine kx_st 4 (pc' := 42) (L' := [some (.ref 65), some (.int (nI k)), some (.int 2), some (.int c), some (.int (kx_b (0 ≤ c ∧ c ≤ 1)))]) (st' := [.int (nI k), .ref 65]) (h' := kv_wd (kv_up g 64 1 (g 64 1 + 1)) w) rfl ?_
              refine kx_call (z := 138) (as := [.ref 65, .int (nI k)]) (rest := []) (v := some (.int (kx_b (0 ≤ nI k ∧ nI k < nI s)))) (h1 := kv_wd (kv_up g 64 1 (g 64 1 + 1)) w) rfl (ev_mPersonS (d := 897) (g := (kv_up g 64 1 (g 64 1 + 1))) (s := s) b2 a2 (nI k)) ?_
              refine kx_st 0 (pc' := 45) (L' := [some (.ref 65), some (.int (nI k)), some (.int 2), some (.int c), some (.int (kx_b (0 ≤ c ∧ c ≤ 1)))]) (st' := [.int (kx_b (0 ≤ nI k ∧ nI k < nI s))]) (h' := kv_wd (kv_up g 64 1 (g 64 1 + 1)) w) rfl ?_
              refine kx_be (t := 70) rfl rfl (fun (m45 : ¬ (0 ≤ nI k ∧ nI k < nI s)) => ?_) (fun (m45 : (0 ≤ nI k ∧ nI k < nI s)) => ?_)
              · exact absurd hp m45
              · refine kx_st 0 (pc' := 48) (L' := [some (.ref 65), some (.int (nI k)), some (.int 2), some (.int c), some (.int (kx_b (0 ≤ c ∧ c ≤ 1)))]) (st' := []) (h' := kv_wd (kv_up g 64 1 (g 64 1 + 1)) w) rfl ?_
                refine kx_st 1 (pc' := 50) (L' := [some (.ref 65), some (.int (nI k)), some (.int 2), some (.int c), some (.int (kx_b (0 ≤ c ∧ c ≤ 1)))]) (st' := [.int (kx_b (0 ≤ c ∧ c ≤ 1))]) (h' := kv_wd (kv_up g 64 1 (g 64 1 + 1)) w) rfl ?_
                refine kx_be (t := 70) rfl rfl (fun (m50 : ¬ (0 ≤ c ∧ c ≤ 1)) => ?_) (fun (m50 : (0 ≤ c ∧ c ≤ 1)) => ?_)
                · refine kx_st 2 (pc' := 73) (L' := [some (.ref 65), some (.int (nI k)), some (.int 2), some (.int c), some (.int (kx_b (0 ≤ c ∧ c ≤ 1)))]) (st' := [.int (-1000000001), .ref 65]) (h' := kv_wd (kv_up g 64 1 (g 64 1 + 1)) w) rfl ?_
                  refine kx_call (z := 131) (as := [.ref 65, .int (-1000000001)]) (rest := []) (v := some (.int (-1000000001))) (h1 := kv_wd (kv_up (kv_up g 64 1 (g 64 1 + 1)) 70 1 ((kv_up g 64 1 (g 64 1 + 1)) 70 1 + 1)) w) rfl (ev_errs (d := 898) (-1000000001) 1 (by decide) (by decide)) ?_
                  refine kx_st 0 (pc' := 76) (L' := [some (.ref 65), some (.int (nI k)), some (.int 2), some (.int c), some (.int (kx_b (0 ≤ c ∧ c ≤ 1)))]) (st' := [.int (-1000000001)]) (h' := kv_wd (kv_up (kv_up g 64 1 (g 64 1 + 1)) 70 1 ((kv_up g 64 1 (g 64 1 + 1)) 70 1 + 1)) w) rfl ?_
                  refine kx_ret (v := some (.int (-1000000001))) rfl ?_
                  exact ⟨rfl, _, _, rfl, kx_Rl_e hR⟩
                · exact absurd m50 hv
            · refine kx_st 0 (pc' := 32) (L' := [some (.ref 0), some (.int (nI k)), some (.int 2), some (.int c), some (.int 1), none]) (st' := []) (h' := kv_wd g w) rfl ?_
              refine kx_st 2 (pc' := 35) (L' := [some (.ref 0), some (.int (nI k)), some (.int 2), some (.int c), some (.int 1), none]) (st' := [.int 1, .int c]) (h' := kv_wd g w) rfl ?_
              refine kx_call (z := 124) (as := [.int c, .int 1]) (rest := []) (v := some (.int (kx_b (0 ≤ c ∧ c ≤ 1)))) (h1 := kv_wd g w) rfl (ev_within (d := 898) c 1) ?_
              refine kx_st 0 (pc' := 38) (L' := [some (.ref 0), some (.int (nI k)), some (.int 2), some (.int c), some (.int 1), none]) (st' := [.int (kx_b (0 ≤ c ∧ c ≤ 1))]) (h' := kv_wd g w) rfl ?_
              refine kx_bn (t := 47) rfl rfl (fun (h38 : (0 ≤ c ∧ c ≤ 1)) => ?_) (fun (h38 : ¬ (0 ≤ c ∧ c ≤ 1)) => ?_)
              · exact absurd h38 hv
              · refine kx_st 0 (pc' := 41) (L' := [some (.ref 0), some (.int (nI k)), some (.int 2), some (.int c), some (.int 1), none]) (st' := []) (h' := kv_wd g w) rfl ?_
                refine kx_st 2 (pc' := 43) (L' := [some (.ref 0), some (.int (nI k)), some (.int 2), some (.int c), some (.int 1), none]) (st' := [.int 1, .ref 0]) (h' := kv_wd g w) rfl ?_
                refine kx_call (z := 123) (as := [.ref 0, .int 1]) (rest := []) (v := some (.int (-1000000000 - nI 1))) (h1 := kv_wd (kv_up g 64 1 (g 64 1 + 1)) w) rfl (ev_error (d := 898) 1 (by decide) (by decide)) ?_
                refine kx_st 0 (pc' := 46) (L' := [some (.ref 0), some (.int (nI k)), some (.int 2), some (.int c), some (.int 1), none]) (st' := [.int (-1000000000 - nI 1)]) (h' := kv_wd (kv_up g 64 1 (g 64 1 + 1)) w) rfl ?_
                refine kx_ret (v := some (.int (-1000000000 - nI 1))) rfl ?_
                refine ⟨_, _, _, rfl, rfl, ?_⟩
                refine kx_st 0 (pc' := 0) (L' := [some (.ref 65), some (.int (nI k)), some (.int 2), some (.int c), none]) (st' := []) (h' := kv_wd (kv_up g 64 1 (g 64 1 + 1)) w) rfl ?_
                refine kx_st 2 (pc' := 2) (L' := [some (.ref 65), some (.int (nI k)), some (.int 2), some (.int c), none]) (st' := [.int 2, .int 2]) (h' := kv_wd (kv_up g 64 1 (g 64 1 + 1)) w) rfl ?_
                refine kx_st 1 (pc' := 5) (L' := [some (.ref 65), some (.int (nI k)), some (.int 2), some (.int c), none]) (st' := []) (h' := kv_wd (kv_up g 64 1 (g 64 1 + 1)) w) rfl ?_
                refine kx_st 3 (pc' := 8) (L' := [some (.ref 65), some (.int (nI k)), some (.int 2), some (.int c), none]) (st' := [.int 1, .int 0, .int c]) (h' := kv_wd (kv_up g 64 1 (g 64 1 + 1)) w) rfl ?_
                refine kx_call (z := 130) (as := [.int c, .int 0, .int 1]) (rest := []) (v := some (.int (kx_b (0 ≤ c ∧ c ≤ 1)))) (h1 := kv_wd (kv_up g 64 1 (g 64 1 + 1)) w) rfl (ev_in (d := 898) c 0 1) ?_
                refine kx_st 0 (pc' := 11) (L' := [some (.ref 65), some (.int (nI k)), some (.int 2), some (.int c), none]) (st' := [.int (kx_b (0 ≤ c ∧ c ≤ 1))]) (h' := kv_wd (kv_up g 64 1 (g 64 1 + 1)) w) rfl ?_
                refine kx_st 4 (pc' := 42) (L' := [some (.ref 65), some (.int (nI k)), some (.int 2), some (.int c), some (.int (kx_b (0 ≤ c ∧ c ≤ 1)))]) (st' := [.int (nI k), .ref 65]) (h' := kv_wd (kv_up g 64 1 (g 64 1 + 1)) w) rfl ?_
                refine kx_call (z := 138) (as := [.ref 65, .int (nI k)]) (rest := []) (v := some (.int (kx_b (0 ≤ nI k ∧ nI k < nI s)))) (h1 := kv_wd (kv_up g 64 1 (g 64 1 + 1)) w) rfl (ev_mPersonS (d := 897) (g := (kv_up g 64 1 (g 64 1 + 1))) (s := s) b2 a2 (nI k)) ?_
                refine kx_st 0 (pc' := 45) (L' := [some (.ref 65), some (.int (nI k)), some (.int 2), some (.int c), some (.int (kx_b (0 ≤ c ∧ c ≤ 1)))]) (st' := [.int (kx_b (0 ≤ nI k ∧ nI k < nI s))]) (h' := kv_wd (kv_up g 64 1 (g 64 1 + 1)) w) rfl ?_
                refine kx_be (t := 70) rfl rfl (fun (m45 : ¬ (0 ≤ nI k ∧ nI k < nI s)) => ?_) (fun (m45 : (0 ≤ nI k ∧ nI k < nI s)) => ?_)
                · exact absurd hp m45
                · refine kx_st 0 (pc' := 48) (L' := [some (.ref 65), some (.int (nI k)), some (.int 2), some (.int c), some (.int (kx_b (0 ≤ c ∧ c ≤ 1)))]) (st' := []) (h' := kv_wd (kv_up g 64 1 (g 64 1 + 1)) w) rfl ?_
                  refine kx_st 1 (pc' := 50) (L' := [some (.ref 65), some (.int (nI k)), some (.int 2), some (.int c), some (.int (kx_b (0 ≤ c ∧ c ≤ 1)))]) (st' := [.int (kx_b (0 ≤ c ∧ c ≤ 1))]) (h' := kv_wd (kv_up g 64 1 (g 64 1 + 1)) w) rfl ?_
                  refine kx_be (t := 70) rfl rfl (fun (m50 : ¬ (0 ≤ c ∧ c ≤ 1)) => ?_) (fun (m50 : (0 ≤ c ∧ c ≤ 1)) => ?_)
                  · refine kx_st 2 (pc' := 73) (L' := [some (.ref 65), some (.int (nI k)), some (.int 2), some (.int c), some (.int (kx_b (0 ≤ c ∧ c ≤ 1)))]) (st' := [.int (-1000000001), .ref 65]) (h' := kv_wd (kv_up g 64 1 (g 64 1 + 1)) w) rfl ?_
                    refine kx_call (z := 131) (as := [.ref 65, .int (-1000000001)]) (rest := []) (v := some (.int (-1000000001))) (h1 := kv_wd (kv_up (kv_up g 64 1 (g 64 1 + 1)) 70 1 ((kv_up g 64 1 (g 64 1 + 1)) 70 1 + 1)) w) rfl (ev_errs (d := 898) (-1000000001) 1 (by decide) (by decide)) ?_
                    refine kx_st 0 (pc' := 76) (L' := [some (.ref 65), some (.int (nI k)), some (.int 2), some (.int c), some (.int (kx_b (0 ≤ c ∧ c ≤ 1)))]) (st' := [.int (-1000000001)]) (h' := kv_wd (kv_up (kv_up g 64 1 (g 64 1 + 1)) 70 1 ((kv_up g 64 1 (g 64 1 + 1)) 70 1 + 1)) w) rfl ?_
                    refine kx_ret (v := some (.int (-1000000001))) rfl ?_
                    exact ⟨rfl, _, _, rfl, kx_Rl_e hR⟩
                  · exact absurd m50 hv
    · refine kx_two (by decide) (Nat.le_of_ble_eq_true rfl) (by decide) (Nat.le_of_ble_eq_true rfl) ?_
      refine kx_st 0 (pc' := 0) (L' := [some (.ref 0), some (.int (nI k)), some (.int b), some (.int c), none, none]) (st' := []) (h' := kv_wd g w) rfl ?_
      refine kx_st 2 (pc' := 2) (L' := [some (.ref 0), some (.int (nI k)), some (.int b), some (.int c), none, none]) (st' := [.int 2, .int b]) (h' := kv_wd g w) rfl ?_
      refine kx_bi (t := 9) rfl rfl (fun (h2 : ¬ b = 2) => ?_) (fun (h2 : ¬ (¬ b = 2)) => ?_)
      · refine kx_st 5 (pc' := 18) (L' := [some (.ref 0), some (.int (nI k)), some (.int b), some (.int c), some (.int 99), none]) (st' := [.int (nI k), .ref 1]) (h' := kv_wd g w) rfl ?_
        refine kx_call (z := 11) (as := [.ref 1, .int (nI k)]) (rest := []) (v := some (.int (kx_b (0 ≤ nI k ∧ nI k < nI s)))) (h1 := kv_wd g w) rfl (ev_isPersonS (d := 898) (g := g) (s := s) b1 (nI k)) ?_
        refine kx_st 0 (pc' := 21) (L' := [some (.ref 0), some (.int (nI k)), some (.int b), some (.int c), some (.int 99), none]) (st' := [.int (kx_b (0 ≤ nI k ∧ nI k < nI s))]) (h' := kv_wd g w) rfl ?_
        refine kx_be (t := 41) rfl rfl (fun (h21 : ¬ (0 ≤ nI k ∧ nI k < nI s)) => ?_) (fun (h21 : (0 ≤ nI k ∧ nI k < nI s)) => ?_)
        · refine kx_st 2 (pc' := 43) (L' := [some (.ref 0), some (.int (nI k)), some (.int b), some (.int c), some (.int 99), none]) (st' := [.int 1, .ref 0]) (h' := kv_wd g w) rfl ?_
          refine kx_call (z := 123) (as := [.ref 0, .int 1]) (rest := []) (v := some (.int (-1000000000 - nI 1))) (h1 := kv_wd (kv_up g 64 1 (g 64 1 + 1)) w) rfl (ev_error (d := 898) 1 (by decide) (by decide)) ?_
          refine kx_st 0 (pc' := 46) (L' := [some (.ref 0), some (.int (nI k)), some (.int b), some (.int c), some (.int 99), none]) (st' := [.int (-1000000000 - nI 1)]) (h' := kv_wd (kv_up g 64 1 (g 64 1 + 1)) w) rfl ?_
          refine kx_ret (v := some (.int (-1000000000 - nI 1))) rfl ?_
          refine ⟨_, _, _, rfl, rfl, ?_⟩
          refine kx_st 0 (pc' := 0) (L' := [some (.ref 65), some (.int (nI k)), some (.int b), some (.int c), none]) (st' := []) (h' := kv_wd (kv_up g 64 1 (g 64 1 + 1)) w) rfl ?_
          refine kx_st 2 (pc' := 2) (L' := [some (.ref 65), some (.int (nI k)), some (.int b), some (.int c), none]) (st' := [.int 2, .int b]) (h' := kv_wd (kv_up g 64 1 (g 64 1 + 1)) w) rfl ?_
          refine kx_bi (t := 14) rfl rfl (fun (m2 : ¬ b = 2) => ?_) (fun (m2 : ¬ (¬ b = 2)) => ?_)
          · refine kx_st 3 (pc' := 17) (L' := [some (.ref 65), some (.int (nI k)), some (.int b), some (.int c), none]) (st' := [.int 1, .int 0, .int b]) (h' := kv_wd (kv_up g 64 1 (g 64 1 + 1)) w) rfl ?_
            refine kx_call (z := 130) (as := [.int b, .int 0, .int 1]) (rest := []) (v := some (.int (kx_b (0 ≤ b ∧ b ≤ 1)))) (h1 := kv_wd (kv_up g 64 1 (g 64 1 + 1)) w) rfl (ev_in (d := 898) b 0 1) ?_
            refine kx_st 0 (pc' := 20) (L' := [some (.ref 65), some (.int (nI k)), some (.int b), some (.int c), none]) (st' := [.int (kx_b (0 ≤ b ∧ b ≤ 1))]) (h' := kv_wd (kv_up g 64 1 (g 64 1 + 1)) w) rfl ?_
            refine kx_be (t := 37) rfl rfl (fun (m20 : ¬ (0 ≤ b ∧ b ≤ 1)) => ?_) (fun (m20 : (0 ≤ b ∧ b ≤ 1)) => ?_)
            · refine kx_st 4 (pc' := 42) (L' := [some (.ref 65), some (.int (nI k)), some (.int b), some (.int c), some (.int 0)]) (st' := [.int (nI k), .ref 65]) (h' := kv_wd (kv_up g 64 1 (g 64 1 + 1)) w) rfl ?_
              refine kx_call (z := 138) (as := [.ref 65, .int (nI k)]) (rest := []) (v := some (.int (kx_b (0 ≤ nI k ∧ nI k < nI s)))) (h1 := kv_wd (kv_up g 64 1 (g 64 1 + 1)) w) rfl (ev_mPersonS (d := 897) (g := (kv_up g 64 1 (g 64 1 + 1))) (s := s) b2 a2 (nI k)) ?_
              refine kx_st 0 (pc' := 45) (L' := [some (.ref 65), some (.int (nI k)), some (.int b), some (.int c), some (.int 0)]) (st' := [.int (kx_b (0 ≤ nI k ∧ nI k < nI s))]) (h' := kv_wd (kv_up g 64 1 (g 64 1 + 1)) w) rfl ?_
              refine kx_be (t := 70) rfl rfl (fun (m45 : ¬ (0 ≤ nI k ∧ nI k < nI s)) => ?_) (fun (m45 : (0 ≤ nI k ∧ nI k < nI s)) => ?_)
              · refine kx_st 2 (pc' := 73) (L' := [some (.ref 65), some (.int (nI k)), some (.int b), some (.int c), some (.int 0)]) (st' := [.int (-1000000001), .ref 65]) (h' := kv_wd (kv_up g 64 1 (g 64 1 + 1)) w) rfl ?_
                refine kx_call (z := 131) (as := [.ref 65, .int (-1000000001)]) (rest := []) (v := some (.int (-1000000001))) (h1 := kv_wd (kv_up (kv_up g 64 1 (g 64 1 + 1)) 70 1 ((kv_up g 64 1 (g 64 1 + 1)) 70 1 + 1)) w) rfl (ev_errs (d := 898) (-1000000001) 1 (by decide) (by decide)) ?_
                refine kx_st 0 (pc' := 76) (L' := [some (.ref 65), some (.int (nI k)), some (.int b), some (.int c), some (.int 0)]) (st' := [.int (-1000000001)]) (h' := kv_wd (kv_up (kv_up g 64 1 (g 64 1 + 1)) 70 1 ((kv_up g 64 1 (g 64 1 + 1)) 70 1 + 1)) w) rfl ?_
                refine kx_ret (v := some (.int (-1000000001))) rfl ?_
                exact ⟨rfl, _, _, rfl, kx_Rl_e hR⟩
              · exact absurd m45 h21
            · exact absurd (kx_le12 m20) hw
          · exact absurd (by rw [Classical.not_not.mp m2]; decide) hw
        · refine kx_st 0 (pc' := 24) (L' := [some (.ref 0), some (.int (nI k)), some (.int b), some (.int c), some (.int 99), none]) (st' := []) (h' := kv_wd g w) rfl ?_
          refine kx_st 2 (pc' := 26) (L' := [some (.ref 0), some (.int (nI k)), some (.int b), some (.int c), some (.int 99), none]) (st' := [.int 2, .int b]) (h' := kv_wd g w) rfl ?_
          refine kx_call (z := 124) (as := [.int b, .int 2]) (rest := []) (v := some (.int (kx_b (0 ≤ b ∧ b ≤ 2)))) (h1 := kv_wd g w) rfl (ev_within (d := 898) b 2) ?_
          refine kx_st 0 (pc' := 29) (L' := [some (.ref 0), some (.int (nI k)), some (.int b), some (.int c), some (.int 99), none]) (st' := [.int (kx_b (0 ≤ b ∧ b ≤ 2))]) (h' := kv_wd g w) rfl ?_
          refine kx_be (t := 41) rfl rfl (fun (h29 : ¬ (0 ≤ b ∧ b ≤ 2)) => ?_) (fun (h29 : (0 ≤ b ∧ b ≤ 2)) => ?_)
          · refine kx_st 2 (pc' := 43) (L' := [some (.ref 0), some (.int (nI k)), some (.int b), some (.int c), some (.int 99), none]) (st' := [.int 1, .ref 0]) (h' := kv_wd g w) rfl ?_
            refine kx_call (z := 123) (as := [.ref 0, .int 1]) (rest := []) (v := some (.int (-1000000000 - nI 1))) (h1 := kv_wd (kv_up g 64 1 (g 64 1 + 1)) w) rfl (ev_error (d := 898) 1 (by decide) (by decide)) ?_
            refine kx_st 0 (pc' := 46) (L' := [some (.ref 0), some (.int (nI k)), some (.int b), some (.int c), some (.int 99), none]) (st' := [.int (-1000000000 - nI 1)]) (h' := kv_wd (kv_up g 64 1 (g 64 1 + 1)) w) rfl ?_
            refine kx_ret (v := some (.int (-1000000000 - nI 1))) rfl ?_
            refine ⟨_, _, _, rfl, rfl, ?_⟩
            refine kx_st 0 (pc' := 0) (L' := [some (.ref 65), some (.int (nI k)), some (.int b), some (.int c), none]) (st' := []) (h' := kv_wd (kv_up g 64 1 (g 64 1 + 1)) w) rfl ?_
            refine kx_st 2 (pc' := 2) (L' := [some (.ref 65), some (.int (nI k)), some (.int b), some (.int c), none]) (st' := [.int 2, .int b]) (h' := kv_wd (kv_up g 64 1 (g 64 1 + 1)) w) rfl ?_
            refine kx_bi (t := 14) rfl rfl (fun (m2 : ¬ b = 2) => ?_) (fun (m2 : ¬ (¬ b = 2)) => ?_)
            · refine kx_st 3 (pc' := 17) (L' := [some (.ref 65), some (.int (nI k)), some (.int b), some (.int c), none]) (st' := [.int 1, .int 0, .int b]) (h' := kv_wd (kv_up g 64 1 (g 64 1 + 1)) w) rfl ?_
              refine kx_call (z := 130) (as := [.int b, .int 0, .int 1]) (rest := []) (v := some (.int (kx_b (0 ≤ b ∧ b ≤ 1)))) (h1 := kv_wd (kv_up g 64 1 (g 64 1 + 1)) w) rfl (ev_in (d := 898) b 0 1) ?_
              refine kx_st 0 (pc' := 20) (L' := [some (.ref 65), some (.int (nI k)), some (.int b), some (.int c), none]) (st' := [.int (kx_b (0 ≤ b ∧ b ≤ 1))]) (h' := kv_wd (kv_up g 64 1 (g 64 1 + 1)) w) rfl ?_
              refine kx_be (t := 37) rfl rfl (fun (m20 : ¬ (0 ≤ b ∧ b ≤ 1)) => ?_) (fun (m20 : (0 ≤ b ∧ b ≤ 1)) => ?_)
              · refine kx_st 4 (pc' := 42) (L' := [some (.ref 65), some (.int (nI k)), some (.int b), some (.int c), some (.int 0)]) (st' := [.int (nI k), .ref 65]) (h' := kv_wd (kv_up g 64 1 (g 64 1 + 1)) w) rfl ?_
                refine kx_call (z := 138) (as := [.ref 65, .int (nI k)]) (rest := []) (v := some (.int (kx_b (0 ≤ nI k ∧ nI k < nI s)))) (h1 := kv_wd (kv_up g 64 1 (g 64 1 + 1)) w) rfl (ev_mPersonS (d := 897) (g := (kv_up g 64 1 (g 64 1 + 1))) (s := s) b2 a2 (nI k)) ?_
                refine kx_st 0 (pc' := 45) (L' := [some (.ref 65), some (.int (nI k)), some (.int b), some (.int c), some (.int 0)]) (st' := [.int (kx_b (0 ≤ nI k ∧ nI k < nI s))]) (h' := kv_wd (kv_up g 64 1 (g 64 1 + 1)) w) rfl ?_
                refine kx_be (t := 70) rfl rfl (fun (m45 : ¬ (0 ≤ nI k ∧ nI k < nI s)) => ?_) (fun (m45 : (0 ≤ nI k ∧ nI k < nI s)) => ?_)
                · exact absurd h21 m45
                · refine kx_st 0 (pc' := 48) (L' := [some (.ref 65), some (.int (nI k)), some (.int b), some (.int c), some (.int 0)]) (st' := []) (h' := kv_wd (kv_up g 64 1 (g 64 1 + 1)) w) rfl ?_
                  refine kx_st 1 (pc' := 50) (L' := [some (.ref 65), some (.int (nI k)), some (.int b), some (.int c), some (.int 0)]) (st' := [.int 0]) (h' := kv_wd (kv_up g 64 1 (g 64 1 + 1)) w) rfl ?_
                  refine kx_st 1 (pc' := 70) (L' := [some (.ref 65), some (.int (nI k)), some (.int b), some (.int c), some (.int 0)]) (st' := []) (h' := kv_wd (kv_up g 64 1 (g 64 1 + 1)) w) rfl ?_
                  refine kx_st 2 (pc' := 73) (L' := [some (.ref 65), some (.int (nI k)), some (.int b), some (.int c), some (.int 0)]) (st' := [.int (-1000000001), .ref 65]) (h' := kv_wd (kv_up g 64 1 (g 64 1 + 1)) w) rfl ?_
                  refine kx_call (z := 131) (as := [.ref 65, .int (-1000000001)]) (rest := []) (v := some (.int (-1000000001))) (h1 := kv_wd (kv_up (kv_up g 64 1 (g 64 1 + 1)) 70 1 ((kv_up g 64 1 (g 64 1 + 1)) 70 1 + 1)) w) rfl (ev_errs (d := 898) (-1000000001) 1 (by decide) (by decide)) ?_
                  refine kx_st 0 (pc' := 76) (L' := [some (.ref 65), some (.int (nI k)), some (.int b), some (.int c), some (.int 0)]) (st' := [.int (-1000000001)]) (h' := kv_wd (kv_up (kv_up g 64 1 (g 64 1 + 1)) 70 1 ((kv_up g 64 1 (g 64 1 + 1)) 70 1 + 1)) w) rfl ?_
                  refine kx_ret (v := some (.int (-1000000001))) rfl ?_
                  exact ⟨rfl, _, _, rfl, kx_Rl_e hR⟩
              · exact absurd (kx_le12 m20) hw
            · exact absurd (by rw [Classical.not_not.mp m2]; decide) hw
          · exact absurd h29 hw
      · exact absurd (by rw [Classical.not_not.mp h2]; decide) hw
  · refine kx_two (by decide) (Nat.le_of_ble_eq_true rfl) (by decide) (Nat.le_of_ble_eq_true rfl) ?_
    refine kx_st 0 (pc' := 0) (L' := [some (.ref 0), some (.int a), some (.int b), some (.int c), none, none]) (st' := []) (h' := kv_wd g w) rfl ?_
    refine kx_st 2 (pc' := 2) (L' := [some (.ref 0), some (.int a), some (.int b), some (.int c), none, none]) (st' := [.int 2, .int b]) (h' := kv_wd g w) rfl ?_
    refine kx_bi (t := 9) rfl rfl (fun (h2 : ¬ b = 2) => ?_) (fun (h2 : ¬ (¬ b = 2)) => ?_)
    · refine kx_st 5 (pc' := 18) (L' := [some (.ref 0), some (.int a), some (.int b), some (.int c), some (.int 99), none]) (st' := [.int a, .ref 1]) (h' := kv_wd g w) rfl ?_
      refine kx_call (z := 11) (as := [.ref 1, .int a]) (rest := []) (v := some (.int (kx_b (0 ≤ a ∧ a < nI s)))) (h1 := kv_wd g w) rfl (ev_isPersonS (d := 898) (g := g) (s := s) b1 a) ?_
      refine kx_st 0 (pc' := 21) (L' := [some (.ref 0), some (.int a), some (.int b), some (.int c), some (.int 99), none]) (st' := [.int (kx_b (0 ≤ a ∧ a < nI s))]) (h' := kv_wd g w) rfl ?_
      refine kx_be (t := 41) rfl rfl (fun (h21 : ¬ (0 ≤ a ∧ a < nI s)) => ?_) (fun (h21 : (0 ≤ a ∧ a < nI s)) => ?_)
      · refine kx_st 2 (pc' := 43) (L' := [some (.ref 0), some (.int a), some (.int b), some (.int c), some (.int 99), none]) (st' := [.int 1, .ref 0]) (h' := kv_wd g w) rfl ?_
        refine kx_call (z := 123) (as := [.ref 0, .int 1]) (rest := []) (v := some (.int (-1000000000 - nI 1))) (h1 := kv_wd (kv_up g 64 1 (g 64 1 + 1)) w) rfl (ev_error (d := 898) 1 (by decide) (by decide)) ?_
        refine kx_st 0 (pc' := 46) (L' := [some (.ref 0), some (.int a), some (.int b), some (.int c), some (.int 99), none]) (st' := [.int (-1000000000 - nI 1)]) (h' := kv_wd (kv_up g 64 1 (g 64 1 + 1)) w) rfl ?_
        refine kx_ret (v := some (.int (-1000000000 - nI 1))) rfl ?_
        refine ⟨_, _, _, rfl, rfl, ?_⟩
        refine kx_st 0 (pc' := 0) (L' := [some (.ref 65), some (.int a), some (.int b), some (.int c), none]) (st' := []) (h' := kv_wd (kv_up g 64 1 (g 64 1 + 1)) w) rfl ?_
        refine kx_st 2 (pc' := 2) (L' := [some (.ref 65), some (.int a), some (.int b), some (.int c), none]) (st' := [.int 2, .int b]) (h' := kv_wd (kv_up g 64 1 (g 64 1 + 1)) w) rfl ?_
        refine kx_bi (t := 14) rfl rfl (fun (m2 : ¬ b = 2) => ?_) (fun (m2 : ¬ (¬ b = 2)) => ?_)
        · refine kx_st 3 (pc' := 17) (L' := [some (.ref 65), some (.int a), some (.int b), some (.int c), none]) (st' := [.int 1, .int 0, .int b]) (h' := kv_wd (kv_up g 64 1 (g 64 1 + 1)) w) rfl ?_
          refine kx_call (z := 130) (as := [.int b, .int 0, .int 1]) (rest := []) (v := some (.int (kx_b (0 ≤ b ∧ b ≤ 1)))) (h1 := kv_wd (kv_up g 64 1 (g 64 1 + 1)) w) rfl (ev_in (d := 898) b 0 1) ?_
          refine kx_st 0 (pc' := 20) (L' := [some (.ref 65), some (.int a), some (.int b), some (.int c), none]) (st' := [.int (kx_b (0 ≤ b ∧ b ≤ 1))]) (h' := kv_wd (kv_up g 64 1 (g 64 1 + 1)) w) rfl ?_
          refine kx_be (t := 37) rfl rfl (fun (m20 : ¬ (0 ≤ b ∧ b ≤ 1)) => ?_) (fun (m20 : (0 ≤ b ∧ b ≤ 1)) => ?_)
          · refine kx_st 4 (pc' := 42) (L' := [some (.ref 65), some (.int a), some (.int b), some (.int c), some (.int 0)]) (st' := [.int a, .ref 65]) (h' := kv_wd (kv_up g 64 1 (g 64 1 + 1)) w) rfl ?_
            refine kx_call (z := 138) (as := [.ref 65, .int a]) (rest := []) (v := some (.int (kx_b (0 ≤ a ∧ a < nI s)))) (h1 := kv_wd (kv_up g 64 1 (g 64 1 + 1)) w) rfl (ev_mPersonS (d := 897) (g := (kv_up g 64 1 (g 64 1 + 1))) (s := s) b2 a2 a) ?_
            refine kx_st 0 (pc' := 45) (L' := [some (.ref 65), some (.int a), some (.int b), some (.int c), some (.int 0)]) (st' := [.int (kx_b (0 ≤ a ∧ a < nI s))]) (h' := kv_wd (kv_up g 64 1 (g 64 1 + 1)) w) rfl ?_
            refine kx_be (t := 70) rfl rfl (fun (m45 : ¬ (0 ≤ a ∧ a < nI s)) => ?_) (fun (m45 : (0 ≤ a ∧ a < nI s)) => ?_)
            · refine kx_st 2 (pc' := 73) (L' := [some (.ref 65), some (.int a), some (.int b), some (.int c), some (.int 0)]) (st' := [.int (-1000000001), .ref 65]) (h' := kv_wd (kv_up g 64 1 (g 64 1 + 1)) w) rfl ?_
              refine kx_call (z := 131) (as := [.ref 65, .int (-1000000001)]) (rest := []) (v := some (.int (-1000000001))) (h1 := kv_wd (kv_up (kv_up g 64 1 (g 64 1 + 1)) 70 1 ((kv_up g 64 1 (g 64 1 + 1)) 70 1 + 1)) w) rfl (ev_errs (d := 898) (-1000000001) 1 (by decide) (by decide)) ?_
              refine kx_st 0 (pc' := 76) (L' := [some (.ref 65), some (.int a), some (.int b), some (.int c), some (.int 0)]) (st' := [.int (-1000000001)]) (h' := kv_wd (kv_up (kv_up g 64 1 (g 64 1 + 1)) 70 1 ((kv_up g 64 1 (g 64 1 + 1)) 70 1 + 1)) w) rfl ?_
              refine kx_ret (v := some (.int (-1000000001))) rfl ?_
              exact ⟨rfl, _, _, rfl, kx_Rl_e hR⟩
            · exact absurd m45 hp
          · refine kx_st 0 (pc' := 23) (L' := [some (.ref 65), some (.int a), some (.int b), some (.int c), none]) (st' := []) (h' := kv_wd (kv_up g 64 1 (g 64 1 + 1)) w) rfl ?_
            refine kx_st 3 (pc' := 27) (L' := [some (.ref 65), some (.int a), some (.int b), some (.int c), none]) (st' := [.int 99, .int 0, .int c]) (h' := kv_wd (kv_up g 64 1 (g 64 1 + 1)) w) rfl ?_
            refine kx_call (z := 130) (as := [.int c, .int 0, .int 99]) (rest := []) (v := some (.int (kx_b (0 ≤ c ∧ c ≤ 99)))) (h1 := kv_wd (kv_up g 64 1 (g 64 1 + 1)) w) rfl (ev_in (d := 898) c 0 99) ?_
            refine kx_st 0 (pc' := 30) (L' := [some (.ref 65), some (.int a), some (.int b), some (.int c), none]) (st' := [.int (kx_b (0 ≤ c ∧ c ≤ 99))]) (h' := kv_wd (kv_up g 64 1 (g 64 1 + 1)) w) rfl ?_
            refine kx_be (t := 37) rfl rfl (fun (m30 : ¬ (0 ≤ c ∧ c ≤ 99)) => ?_) (fun (m30 : (0 ≤ c ∧ c ≤ 99)) => ?_)
            · refine kx_st 4 (pc' := 42) (L' := [some (.ref 65), some (.int a), some (.int b), some (.int c), some (.int 0)]) (st' := [.int a, .ref 65]) (h' := kv_wd (kv_up g 64 1 (g 64 1 + 1)) w) rfl ?_
              refine kx_call (z := 138) (as := [.ref 65, .int a]) (rest := []) (v := some (.int (kx_b (0 ≤ a ∧ a < nI s)))) (h1 := kv_wd (kv_up g 64 1 (g 64 1 + 1)) w) rfl (ev_mPersonS (d := 897) (g := (kv_up g 64 1 (g 64 1 + 1))) (s := s) b2 a2 a) ?_
              refine kx_st 0 (pc' := 45) (L' := [some (.ref 65), some (.int a), some (.int b), some (.int c), some (.int 0)]) (st' := [.int (kx_b (0 ≤ a ∧ a < nI s))]) (h' := kv_wd (kv_up g 64 1 (g 64 1 + 1)) w) rfl ?_
              refine kx_be (t := 70) rfl rfl (fun (m45 : ¬ (0 ≤ a ∧ a < nI s)) => ?_) (fun (m45 : (0 ≤ a ∧ a < nI s)) => ?_)
              · refine kx_st 2 (pc' := 73) (L' := [some (.ref 65), some (.int a), some (.int b), some (.int c), some (.int 0)]) (st' := [.int (-1000000001), .ref 65]) (h' := kv_wd (kv_up g 64 1 (g 64 1 + 1)) w) rfl ?_
                refine kx_call (z := 131) (as := [.ref 65, .int (-1000000001)]) (rest := []) (v := some (.int (-1000000001))) (h1 := kv_wd (kv_up (kv_up g 64 1 (g 64 1 + 1)) 70 1 ((kv_up g 64 1 (g 64 1 + 1)) 70 1 + 1)) w) rfl (ev_errs (d := 898) (-1000000001) 1 (by decide) (by decide)) ?_
                refine kx_st 0 (pc' := 76) (L' := [some (.ref 65), some (.int a), some (.int b), some (.int c), some (.int 0)]) (st' := [.int (-1000000001)]) (h' := kv_wd (kv_up (kv_up g 64 1 (g 64 1 + 1)) 70 1 ((kv_up g 64 1 (g 64 1 + 1)) 70 1 + 1)) w) rfl ?_
                refine kx_ret (v := some (.int (-1000000001))) rfl ?_
                exact ⟨rfl, _, _, rfl, kx_Rl_e hR⟩
              · exact absurd m45 hp
            · refine kx_st 0 (pc' := 33) (L' := [some (.ref 65), some (.int a), some (.int b), some (.int c), none]) (st' := []) (h' := kv_wd (kv_up g 64 1 (g 64 1 + 1)) w) rfl ?_
              refine kx_st 5 (pc' := 42) (L' := [some (.ref 65), some (.int a), some (.int b), some (.int c), some (.int 1)]) (st' := [.int a, .ref 65]) (h' := kv_wd (kv_up g 64 1 (g 64 1 + 1)) w) rfl ?_
              refine kx_call (z := 138) (as := [.ref 65, .int a]) (rest := []) (v := some (.int (kx_b (0 ≤ a ∧ a < nI s)))) (h1 := kv_wd (kv_up g 64 1 (g 64 1 + 1)) w) rfl (ev_mPersonS (d := 897) (g := (kv_up g 64 1 (g 64 1 + 1))) (s := s) b2 a2 a) ?_
              refine kx_st 0 (pc' := 45) (L' := [some (.ref 65), some (.int a), some (.int b), some (.int c), some (.int 1)]) (st' := [.int (kx_b (0 ≤ a ∧ a < nI s))]) (h' := kv_wd (kv_up g 64 1 (g 64 1 + 1)) w) rfl ?_
              refine kx_be (t := 70) rfl rfl (fun (m45 : ¬ (0 ≤ a ∧ a < nI s)) => ?_) (fun (m45 : (0 ≤ a ∧ a < nI s)) => ?_)
              · refine kx_st 2 (pc' := 73) (L' := [some (.ref 65), some (.int a), some (.int b), some (.int c), some (.int 1)]) (st' := [.int (-1000000001), .ref 65]) (h' := kv_wd (kv_up g 64 1 (g 64 1 + 1)) w) rfl ?_
                refine kx_call (z := 131) (as := [.ref 65, .int (-1000000001)]) (rest := []) (v := some (.int (-1000000001))) (h1 := kv_wd (kv_up (kv_up g 64 1 (g 64 1 + 1)) 70 1 ((kv_up g 64 1 (g 64 1 + 1)) 70 1 + 1)) w) rfl (ev_errs (d := 898) (-1000000001) 1 (by decide) (by decide)) ?_
                refine kx_st 0 (pc' := 76) (L' := [some (.ref 65), some (.int a), some (.int b), some (.int c), some (.int 1)]) (st' := [.int (-1000000001)]) (h' := kv_wd (kv_up (kv_up g 64 1 (g 64 1 + 1)) 70 1 ((kv_up g 64 1 (g 64 1 + 1)) 70 1 + 1)) w) rfl ?_
                refine kx_ret (v := some (.int (-1000000001))) rfl ?_
                exact ⟨rfl, _, _, rfl, kx_Rl_e hR⟩
              · exact absurd m45 hp
        · exact absurd h2 m2
      · exact absurd h21 hp
    · refine kx_st 0 (pc' := 5) (L' := [some (.ref 0), some (.int a), some (.int b), some (.int c), none, none]) (st' := []) (h' := kv_wd g w) rfl ?_
      refine kx_st 6 (pc' := 18) (L' := [some (.ref 0), some (.int a), some (.int b), some (.int c), some (.int 1), none]) (st' := [.int a, .ref 1]) (h' := kv_wd g w) rfl ?_
      refine kx_call (z := 11) (as := [.ref 1, .int a]) (rest := []) (v := some (.int (kx_b (0 ≤ a ∧ a < nI s)))) (h1 := kv_wd g w) rfl (ev_isPersonS (d := 898) (g := g) (s := s) b1 a) ?_
      refine kx_st 0 (pc' := 21) (L' := [some (.ref 0), some (.int a), some (.int b), some (.int c), some (.int 1), none]) (st' := [.int (kx_b (0 ≤ a ∧ a < nI s))]) (h' := kv_wd g w) rfl ?_
      refine kx_be (t := 41) rfl rfl (fun (h21 : ¬ (0 ≤ a ∧ a < nI s)) => ?_) (fun (h21 : (0 ≤ a ∧ a < nI s)) => ?_)
      · refine kx_st 2 (pc' := 43) (L' := [some (.ref 0), some (.int a), some (.int b), some (.int c), some (.int 1), none]) (st' := [.int 1, .ref 0]) (h' := kv_wd g w) rfl ?_
        refine kx_call (z := 123) (as := [.ref 0, .int 1]) (rest := []) (v := some (.int (-1000000000 - nI 1))) (h1 := kv_wd (kv_up g 64 1 (g 64 1 + 1)) w) rfl (ev_error (d := 898) 1 (by decide) (by decide)) ?_
        refine kx_st 0 (pc' := 46) (L' := [some (.ref 0), some (.int a), some (.int b), some (.int c), some (.int 1), none]) (st' := [.int (-1000000000 - nI 1)]) (h' := kv_wd (kv_up g 64 1 (g 64 1 + 1)) w) rfl ?_
        refine kx_ret (v := some (.int (-1000000000 - nI 1))) rfl ?_
        refine ⟨_, _, _, rfl, rfl, ?_⟩
        refine kx_st 0 (pc' := 0) (L' := [some (.ref 65), some (.int a), some (.int b), some (.int c), none]) (st' := []) (h' := kv_wd (kv_up g 64 1 (g 64 1 + 1)) w) rfl ?_
        refine kx_st 2 (pc' := 2) (L' := [some (.ref 65), some (.int a), some (.int b), some (.int c), none]) (st' := [.int 2, .int b]) (h' := kv_wd (kv_up g 64 1 (g 64 1 + 1)) w) rfl ?_
        refine kx_bi (t := 14) rfl rfl (fun (m2 : ¬ b = 2) => ?_) (fun (m2 : ¬ (¬ b = 2)) => ?_)
        · exact absurd m2 h2
        · refine kx_st 0 (pc' := 5) (L' := [some (.ref 65), some (.int a), some (.int b), some (.int c), none]) (st' := []) (h' := kv_wd (kv_up g 64 1 (g 64 1 + 1)) w) rfl ?_
          refine kx_st 3 (pc' := 8) (L' := [some (.ref 65), some (.int a), some (.int b), some (.int c), none]) (st' := [.int 1, .int 0, .int c]) (h' := kv_wd (kv_up g 64 1 (g 64 1 + 1)) w) rfl ?_
          refine kx_call (z := 130) (as := [.int c, .int 0, .int 1]) (rest := []) (v := some (.int (kx_b (0 ≤ c ∧ c ≤ 1)))) (h1 := kv_wd (kv_up g 64 1 (g 64 1 + 1)) w) rfl (ev_in (d := 898) c 0 1) ?_
          refine kx_st 0 (pc' := 11) (L' := [some (.ref 65), some (.int a), some (.int b), some (.int c), none]) (st' := [.int (kx_b (0 ≤ c ∧ c ≤ 1))]) (h' := kv_wd (kv_up g 64 1 (g 64 1 + 1)) w) rfl ?_
          refine kx_st 4 (pc' := 42) (L' := [some (.ref 65), some (.int a), some (.int b), some (.int c), some (.int (kx_b (0 ≤ c ∧ c ≤ 1)))]) (st' := [.int a, .ref 65]) (h' := kv_wd (kv_up g 64 1 (g 64 1 + 1)) w) rfl ?_
          refine kx_call (z := 138) (as := [.ref 65, .int a]) (rest := []) (v := some (.int (kx_b (0 ≤ a ∧ a < nI s)))) (h1 := kv_wd (kv_up g 64 1 (g 64 1 + 1)) w) rfl (ev_mPersonS (d := 897) (g := (kv_up g 64 1 (g 64 1 + 1))) (s := s) b2 a2 a) ?_
          refine kx_st 0 (pc' := 45) (L' := [some (.ref 65), some (.int a), some (.int b), some (.int c), some (.int (kx_b (0 ≤ c ∧ c ≤ 1)))]) (st' := [.int (kx_b (0 ≤ a ∧ a < nI s))]) (h' := kv_wd (kv_up g 64 1 (g 64 1 + 1)) w) rfl ?_
          refine kx_be (t := 70) rfl rfl (fun (m45 : ¬ (0 ≤ a ∧ a < nI s)) => ?_) (fun (m45 : (0 ≤ a ∧ a < nI s)) => ?_)
          · refine kx_st 2 (pc' := 73) (L' := [some (.ref 65), some (.int a), some (.int b), some (.int c), some (.int (kx_b (0 ≤ c ∧ c ≤ 1)))]) (st' := [.int (-1000000001), .ref 65]) (h' := kv_wd (kv_up g 64 1 (g 64 1 + 1)) w) rfl ?_
            refine kx_call (z := 131) (as := [.ref 65, .int (-1000000001)]) (rest := []) (v := some (.int (-1000000001))) (h1 := kv_wd (kv_up (kv_up g 64 1 (g 64 1 + 1)) 70 1 ((kv_up g 64 1 (g 64 1 + 1)) 70 1 + 1)) w) rfl (ev_errs (d := 898) (-1000000001) 1 (by decide) (by decide)) ?_
            refine kx_st 0 (pc' := 76) (L' := [some (.ref 65), some (.int a), some (.int b), some (.int c), some (.int (kx_b (0 ≤ c ∧ c ≤ 1)))]) (st' := [.int (-1000000001)]) (h' := kv_wd (kv_up (kv_up g 64 1 (g 64 1 + 1)) 70 1 ((kv_up g 64 1 (g 64 1 + 1)) 70 1 + 1)) w) rfl ?_
            refine kx_ret (v := some (.int (-1000000001))) rfl ?_
            exact ⟨rfl, _, _, rfl, kx_Rl_e hR⟩
          · exact absurd m45 hp
      · exact absurd h21 hp
end KP9
