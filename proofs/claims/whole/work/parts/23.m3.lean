/-! LEAVES of the reference -/
theorem kx_retb {E : kv_V} {d y pc : Nat} {L : kv_L} {h : kv_H} {P : Option Value → kv_H → Prop} {c : Prop} [Decidable c] (hat : kv_at y pc = some (.ireturn, 1)) (hrt : kv_rt y = some .boolean) (hp : P (some (.int (kx_b c))) h) : kx_V E d y pc L [.int (kx_b c)] h P := by
  refine kx_ret (v := some (.int (kx_b c))) ?_ hp
  simp only [kx_r, hat, kv_cl1, hrt, kv_re, kx_b_fit, if_true]
theorem kx_nadd (a b : Nat) : nI a + nI b = nI (a + b) := (Int32.ofNat_add a b).symm
theorem kx_nmul (a b : Nat) : nI a * nI b = nI (a * b) := (Int32.ofNat_mul a b).symm
theorem kx_i8 (p : Nat) : (8 : Int32) + nI p = nI (8 + p) := kx_nadd 8 p
theorem kx_i14 (p : Nat) : (14 : Int32) + nI p = nI (14 + p) := kx_nadd 14 p
theorem kx_i20 (p : Nat) : (20 : Int32) + nI p = nI (20 + p) := kx_nadd 20 p
theorem kx_i26 (k c : Nat) : (26 : Int32) + 9 * nI k + nI c = nI (26 + 9 * k + c) := by
  show nI 26 + nI 9 * nI k + nI c = _
  rw [kx_nmul, kx_nadd, kx_nadd]
theorem kv_uf_uf (g : kv_S) (a : Nat) (f f' : Nat → Int32) : kv_uf (kv_uf g a f) a f' = kv_uf g a f' := by
  funext b
  by_cases h : b = a
  · subst h; rw [kv_uf_self, kv_uf_self]
  · rw [kv_uf_ne h, kv_uf_ne h, kv_uf_ne h]
theorem kv_uf_id (g : kv_S) (a : Nat) : kv_uf g a (g a) = g := by
  funext b
  by_cases h : b = a
  · subst h; rw [kv_uf_self]
  · rw [kv_uf_ne h]
set_option maxRecDepth 100000 in
theorem ev_errs {E : kv_V} {d : Nat} {g : kv_S} {w : kv_W} (e : Int32) (k : Nat) (hk : k < 6) (he : -1000000000 - e = nI k) : kv_ev E (d + 1) 131 [.ref 65, .int e] (kv_wd g w) (some (.int e)) (kv_wd (kv_up g 70 k (g 70 k + 1)) w) := by
  refine kx_ev (d := d + 0) (by decide) (Nat.le_of_ble_eq_true rfl) ?_
  refine kx_st 0 (pc' := 0) (L' := [some (.ref 65), some (.int e)]) (st' := []) (h' := kv_wd g w) rfl ?_
  refine kx_st 6 (pc' := 9) (L' := [some (.ref 65), some (.int e)]) (st' := [.int ((-1000000000) - e), .ref 70, .int ((-1000000000) - e), .ref 70]) (h' := kv_wd g w) rfl ?_
  refine kx_ia (k := k) rfl rfl (by decide) he hk (by decide) ?_
  refine kx_st 2 (pc' := 12) (L' := [some (.ref 65), some (.int e)]) (st' := [.int ((g 70 k) + 1), .int ((-1000000000) - e), .ref 70]) (h' := kv_wd g w) rfl ?_
  refine kx_is (k := k) rfl rfl (by decide) he hk (by decide) ?_
  refine kx_st 1 (pc' := 14) (L' := [some (.ref 65), some (.int e)]) (st' := [.int e]) (h' := kv_wd (kv_up g 70 k ((g 70 k) + 1)) w) rfl ?_
  refine kx_ret (v := some (.int e)) rfl ?_
  exact ⟨rfl, rfl⟩
set_option maxRecDepth 100000 in
theorem ev_its {E : kv_V} {d : Nat} {g : kv_S} {w : kv_W} (k c : Nat) (h : 26 + 9 * k + c < 268) : kv_ev E (d + 1) 136 [.ref 65, .int (nI k), .int (nI c)] (kv_wd g w) (some (.int (g 66 (26 + 9 * k + c)))) (kv_wd g w) := by
  refine kx_ev (d := d + 0) (by decide) (Nat.le_of_ble_eq_true rfl) ?_
  refine kx_st 0 (pc' := 0) (L' := [some (.ref 65), some (.int (nI k)), some (.int (nI c))]) (st' := []) (h' := kv_wd g w) rfl ?_
  refine kx_st 9 (pc' := 13) (L' := [some (.ref 65), some (.int (nI k)), some (.int (nI c))]) (st' := [.int ((26 + (9 * (nI k))) + (nI c)), .ref 66]) (h' := kv_wd g w) rfl ?_
  refine kx_ia (k := 26 + 9 * k + c) rfl rfl (by decide) (kx_i26 k c) h (by decide) ?_
  refine kx_ret (v := some (.int (g 66 (26 + 9 * k + c)))) rfl ?_
  exact ⟨rfl, rfl⟩
set_option maxRecDepth 100000 in
theorem ev_gets {E : kv_V} {d : Nat} {g : kv_S} {w : kv_W} (k c : Nat) (h : 26 + 9 * k + c < 268) (x : Int32) : kv_ev E (d + 1) 137 [.ref 65, .int (nI k), .int (nI c), .int x] (kv_wd g w) none (kv_wd (kv_up g 66 (26 + 9 * k + c) x) w) := by
  refine kx_ev (d := d + 0) (by decide) (Nat.le_of_ble_eq_true rfl) ?_
  refine kx_st 0 (pc' := 0) (L' := [some (.ref 65), some (.int (nI k)), some (.int (nI c)), some (.int x)]) (st' := []) (h' := kv_wd g w) rfl ?_
  refine kx_st 10 (pc' := 14) (L' := [some (.ref 65), some (.int (nI k)), some (.int (nI c)), some (.int x)]) (st' := [.int x, .int ((26 + (9 * (nI k))) + (nI c)), .ref 66]) (h' := kv_wd g w) rfl ?_
  refine kx_is (k := 26 + 9 * k + c) rfl rfl (by decide) (kx_i26 k c) h (by decide) ?_
  refine kx_ret (v := none) rfl ?_
  exact ⟨rfl, rfl⟩
set_option maxRecDepth 100000 in
theorem ev_mPerson {E : kv_V} {d : Nat} {g : kv_S} {w : kv_W} (p : Int32) : kv_ev E (d + 2) 138 [.ref 65, .int p] (kv_wd g w) (some (.int (kx_b (0 ≤ p ∧ p ≤ g 66 3 - 1)))) (kv_wd g w) := by
  refine kx_ev (d := d + 1) (by decide) (Nat.le_of_ble_eq_true rfl) ?_
  refine kx_st 0 (pc' := 0) (L' := [some (.ref 65), some (.int p)]) (st' := []) (h' := kv_wd g w) rfl ?_
  refine kx_st 5 (pc' := 7) (L' := [some (.ref 65), some (.int p)]) (st' := [.int 3, .ref 66, .int 0, .int p]) (h' := kv_wd g w) rfl ?_
  refine kx_ia (k := 3) rfl rfl (by decide) rfl (by decide) (by decide) ?_
  refine kx_st 2 (pc' := 10) (L' := [some (.ref 65), some (.int p)]) (st' := [.int ((g 66 3) - 1), .int 0, .int p]) (h' := kv_wd g w) rfl ?_
  refine kx_call (z := 130) (as := [.int p, .int 0, .int ((g 66 3) - 1)]) (rest := []) (v := some (.int (kx_b (0 ≤ p ∧ p ≤ (g 66 3) - 1)))) (h1 := kv_wd g w) rfl (ev_in (d := d) p 0 ((g 66 3) - 1)) ?_
  refine kx_st 0 (pc' := 13) (L' := [some (.ref 65), some (.int p)]) (st' := [.int (kx_b (0 ≤ p ∧ p ≤ (g 66 3) - 1))]) (h' := kv_wd g w) rfl ?_
  refine kx_retb rfl rfl ?_
  exact ⟨rfl, rfl⟩
set_option maxRecDepth 100000 in
theorem ev_mKnot {E : kv_V} {d : Nat} {g : kv_S} {w : kv_W} (p : Int32) : kv_ev E (d + 2) 139 [.ref 65, .int p] (kv_wd g w) (some (.int (kx_b (0 ≤ p ∧ p ≤ g 66 2 - 1)))) (kv_wd g w) := by
  refine kx_ev (d := d + 1) (by decide) (Nat.le_of_ble_eq_true rfl) ?_
  refine kx_st 0 (pc' := 0) (L' := [some (.ref 65), some (.int p)]) (st' := []) (h' := kv_wd g w) rfl ?_
  refine kx_st 5 (pc' := 7) (L' := [some (.ref 65), some (.int p)]) (st' := [.int 2, .ref 66, .int 0, .int p]) (h' := kv_wd g w) rfl ?_
  refine kx_ia (k := 2) rfl rfl (by decide) rfl (by decide) (by decide) ?_
  refine kx_st 2 (pc' := 10) (L' := [some (.ref 65), some (.int p)]) (st' := [.int ((g 66 2) - 1), .int 0, .int p]) (h' := kv_wd g w) rfl ?_
  refine kx_call (z := 130) (as := [.int p, .int 0, .int ((g 66 2) - 1)]) (rest := []) (v := some (.int (kx_b (0 ≤ p ∧ p ≤ (g 66 2) - 1)))) (h1 := kv_wd g w) rfl (ev_in (d := d) p 0 ((g 66 2) - 1)) ?_
  refine kx_st 0 (pc' := 13) (L' := [some (.ref 65), some (.int p)]) (st' := [.int (kx_b (0 ≤ p ∧ p ≤ (g 66 2) - 1))]) (h' := kv_wd g w) rfl ?_
  refine kx_retb rfl rfl ?_
  exact ⟨rfl, rfl⟩
set_option maxRecDepth 100000 in
theorem ev_mPair {E : kv_V} {d : Nat} {g : kv_S} {w : kv_W} (p : Int32) : kv_ev E (d + 3) 140 [.ref 65, .int p] (kv_wd g w) (some (.int (kx_b ((0 ≤ p ∧ p ≤ 99) ∧ ¬ p / 10 = p % 10 ∧ (0 ≤ p / 10 ∧ p / 10 ≤ g 66 3 - 1) ∧ (0 ≤ p % 10 ∧ p % 10 ≤ g 66 3 - 1))))) (kv_wd g w) := by
  refine kx_ev (d := d + 2) (by decide) (Nat.le_of_ble_eq_true rfl) ?_
  refine kx_st 0 (pc' := 0) (L' := [some (.ref 65), some (.int p)]) (st' := []) (h' := kv_wd g w) rfl ?_
  refine kx_st 3 (pc' := 4) (L' := [some (.ref 65), some (.int p)]) (st' := [.int 99, .int 0, .int p]) (h' := kv_wd g w) rfl ?_
  refine kx_call (z := 130) (as := [.int p, .int 0, .int 99]) (rest := []) (v := some (.int (kx_b (0 ≤ p ∧ p ≤ 99)))) (h1 := kv_wd g w) rfl (ev_in (d := d + 1) p 0 99) ?_
  refine kx_st 0 (pc' := 7) (L' := [some (.ref 65), some (.int p)]) (st' := [.int (kx_b (0 ≤ p ∧ p ≤ 99))]) (h' := kv_wd g w) rfl ?_
  refine kx_be (t := 47) rfl rfl (fun (h7 : ¬ (0 ≤ p ∧ p ≤ 99)) => ?_) (fun (h7 : (0 ≤ p ∧ p ≤ 99)) => ?_)
  · refine kx_st 1 (pc' := 48) (L' := [some (.ref 65), some (.int p)]) (st' := [.int 0]) (h' := kv_wd g w) rfl ?_
    refine kx_ret (v := some (.int 0)) rfl ?_
    exact ⟨kx_l0 (by (try simp only [Int32.not_lt, Int32.not_le, Classical.not_not] at *); grind), rfl⟩
  · refine kx_st 0 (pc' := 10) (L' := [some (.ref 65), some (.int p)]) (st' := []) (h' := kv_wd g w) rfl ?_
    refine kx_st 2 (pc' := 13) (L' := [some (.ref 65), some (.int p)]) (st' := [.int 10, .int p]) (h' := kv_wd g w) rfl ?_
    refine kx_dv rfl (by decide) ?_
    refine kx_st 2 (pc' := 17) (L' := [some (.ref 65), some (.int p)]) (st' := [.int 10, .int p, .int (p / 10)]) (h' := kv_wd g w) rfl ?_
    refine kx_rm rfl (by decide) ?_
    refine kx_bi (t := 47) rfl rfl (fun (h18 : p / 10 = p % 10) => ?_) (fun (h18 : ¬ (p / 10 = p % 10)) => ?_)
    · refine kx_st 1 (pc' := 48) (L' := [some (.ref 65), some (.int p)]) (st' := [.int 0]) (h' := kv_wd g w) rfl ?_
      refine kx_ret (v := some (.int 0)) rfl ?_
      exact ⟨kx_l0 (by (try simp only [Int32.not_lt, Int32.not_le, Classical.not_not] at *); grind), rfl⟩
    · refine kx_st 0 (pc' := 21) (L' := [some (.ref 65), some (.int p)]) (st' := []) (h' := kv_wd g w) rfl ?_
      refine kx_st 3 (pc' := 25) (L' := [some (.ref 65), some (.int p)]) (st' := [.int 10, .int p, .ref 65]) (h' := kv_wd g w) rfl ?_
      refine kx_dv rfl (by decide) ?_
      refine kx_call (z := 138) (as := [.ref 65, .int (p / 10)]) (rest := []) (v := some (.int (kx_b (0 ≤ p / 10 ∧ p / 10 ≤ g 66 3 - 1)))) (h1 := kv_wd g w) rfl (ev_mPerson (d := d) (p / 10)) ?_
      refine kx_st 0 (pc' := 29) (L' := [some (.ref 65), some (.int p)]) (st' := [.int (kx_b (0 ≤ p / 10 ∧ p / 10 ≤ g 66 3 - 1))]) (h' := kv_wd g w) rfl ?_
      refine kx_be (t := 47) rfl rfl (fun (h29 : ¬ (0 ≤ p / 10 ∧ p / 10 ≤ g 66 3 - 1)) => ?_) (fun (h29 : (0 ≤ p / 10 ∧ p / 10 ≤ g 66 3 - 1)) => ?_)
      · refine kx_st 1 (pc' := 48) (L' := [some (.ref 65), some (.int p)]) (st' := [.int 0]) (h' := kv_wd g w) rfl ?_
        refine kx_ret (v := some (.int 0)) rfl ?_
        exact ⟨kx_l0 (by (try simp only [Int32.not_lt, Int32.not_le, Classical.not_not] at *); grind), rfl⟩
      · refine kx_st 0 (pc' := 32) (L' := [some (.ref 65), some (.int p)]) (st' := []) (h' := kv_wd g w) rfl ?_
        refine kx_st 3 (pc' := 36) (L' := [some (.ref 65), some (.int p)]) (st' := [.int 10, .int p, .ref 65]) (h' := kv_wd g w) rfl ?_
        refine kx_rm rfl (by decide) ?_
        refine kx_call (z := 138) (as := [.ref 65, .int (p % 10)]) (rest := []) (v := some (.int (kx_b (0 ≤ p % 10 ∧ p % 10 ≤ g 66 3 - 1)))) (h1 := kv_wd g w) rfl (ev_mPerson (d := d) (p % 10)) ?_
        refine kx_st 0 (pc' := 40) (L' := [some (.ref 65), some (.int p)]) (st' := [.int (kx_b (0 ≤ p % 10 ∧ p % 10 ≤ g 66 3 - 1))]) (h' := kv_wd g w) rfl ?_
        refine kx_be (t := 47) rfl rfl (fun (h40 : ¬ (0 ≤ p % 10 ∧ p % 10 ≤ g 66 3 - 1)) => ?_) (fun (h40 : (0 ≤ p % 10 ∧ p % 10 ≤ g 66 3 - 1)) => ?_)
        · refine kx_st 1 (pc' := 48) (L' := [some (.ref 65), some (.int p)]) (st' := [.int 0]) (h' := kv_wd g w) rfl ?_
          refine kx_ret (v := some (.int 0)) rfl ?_
          exact ⟨kx_l0 (by (try simp only [Int32.not_lt, Int32.not_le, Classical.not_not] at *); grind), rfl⟩
        · refine kx_st 0 (pc' := 43) (L' := [some (.ref 65), some (.int p)]) (st' := []) (h' := kv_wd g w) rfl ?_
          refine kx_st 2 (pc' := 48) (L' := [some (.ref 65), some (.int p)]) (st' := [.int 1]) (h' := kv_wd g w) rfl ?_
          refine kx_ret (v := some (.int 1)) rfl ?_
          exact ⟨kx_l1 (by (try simp only [Int32.not_lt, Int32.not_le, Classical.not_not] at *); grind), rfl⟩
set_option maxRecDepth 100000 in
theorem ev_mThere {E : kv_V} {d : Nat} {g : kv_S} {w : kv_W} (p : Nat) (h : p < 6) : kv_ev E (d + 1) 141 [.ref 65, .int (nI p)] (kv_wd g w) (some (.int (kx_b (g 66 (20 + p) = 1)))) (kv_wd g w) := by
  refine kx_ev (d := d + 0) (by decide) (Nat.le_of_ble_eq_true rfl) ?_
  refine kx_st 0 (pc' := 0) (L' := [some (.ref 65), some (.int (nI p))]) (st' := []) (h' := kv_wd g w) rfl ?_
  refine kx_st 5 (pc' := 8) (L' := [some (.ref 65), some (.int (nI p))]) (st' := [.int (20 + (nI p)), .ref 66]) (h' := kv_wd g w) rfl ?_
  refine kx_ia (k := 20 + p) rfl rfl (by decide) (kx_i20 p) (by omega) (by decide) ?_
  refine kx_st 1 (pc' := 10) (L' := [some (.ref 65), some (.int (nI p))]) (st' := [.int 1, .int (g 66 (20 + p))]) (h' := kv_wd g w) rfl ?_
  refine kx_bi (t := 17) rfl rfl (fun (h10 : ¬ g 66 (20 + p) = 1) => ?_) (fun (h10 : ¬ (¬ g 66 (20 + p) = 1)) => ?_)
  · refine kx_st 1 (pc' := 18) (L' := [some (.ref 65), some (.int (nI p))]) (st' := [.int 0]) (h' := kv_wd g w) rfl ?_
    refine kx_ret (v := some (.int 0)) rfl ?_
    exact ⟨kx_l0 (by (try simp only [Int32.not_lt, Int32.not_le, Classical.not_not] at *); grind), rfl⟩
  · refine kx_st 0 (pc' := 13) (L' := [some (.ref 65), some (.int (nI p))]) (st' := []) (h' := kv_wd g w) rfl ?_
    refine kx_st 2 (pc' := 18) (L' := [some (.ref 65), some (.int (nI p))]) (st' := [.int 1]) (h' := kv_wd g w) rfl ?_
    refine kx_ret (v := some (.int 1)) rfl ?_
    exact ⟨kx_l1 (by (try simp only [Int32.not_lt, Int32.not_le, Classical.not_not] at *); grind), rfl⟩
set_option maxRecDepth 100000 in
theorem ev_becomes {E : kv_V} {d : Nat} {g : kv_S} {w : kv_W} (a : Nat) (h : a < 268) (x : Int32) : kv_ev E (d + 1) 142 [.ref 65, .int (nI a), .int x] (kv_wd g w) (some (.int (g 66 a))) (kv_wd (kv_up g 66 a x) w) := by
  refine kx_ev (d := d + 0) (by decide) (Nat.le_of_ble_eq_true rfl) ?_
  refine kx_st 0 (pc' := 0) (L' := [some (.ref 65), some (.int (nI a)), some (.int x), none]) (st' := []) (h' := kv_wd g w) rfl ?_
  refine kx_st 3 (pc' := 5) (L' := [some (.ref 65), some (.int (nI a)), some (.int x), none]) (st' := [.int (nI a), .ref 66]) (h' := kv_wd g w) rfl ?_
  refine kx_ia (k := a) rfl rfl (by decide) rfl (by omega) (by decide) ?_
  refine kx_st 5 (pc' := 13) (L' := [some (.ref 65), some (.int (nI a)), some (.int x), some (.int (g 66 a))]) (st' := [.int x, .int (nI a), .ref 66]) (h' := kv_wd g w) rfl ?_
  refine kx_is (k := a) rfl rfl (by decide) rfl (by omega) (by decide) ?_
  refine kx_st 1 (pc' := 15) (L' := [some (.ref 65), some (.int (nI a)), some (.int x), some (.int (g 66 a))]) (st' := [.int (g 66 a)]) (h' := kv_wd (kv_up g 66 a x) w) rfl ?_
  refine kx_ret (v := some (.int (g 66 a))) rfl ?_
  exact ⟨rfl, rfl⟩
set_option maxRecDepth 100000 in
theorem ev_crossed {E : kv_V} {d : Nat} {g : kv_S} {w : kv_W} (p q : Nat) (hp : p < 6) (hq : q < 6) : kv_ev E (d + 1) 146 [.ref 65, .int (nI p), .int (nI q)] (kv_wd g w) (some (.int (g 66 (8 + p) + g 66 (14 + q)))) (kv_wd g w) := by
  refine kx_ev (d := d + 0) (by decide) (Nat.le_of_ble_eq_true rfl) ?_
  refine kx_st 0 (pc' := 0) (L' := [some (.ref 65), some (.int (nI p)), some (.int (nI q))]) (st' := []) (h' := kv_wd g w) rfl ?_
  refine kx_st 5 (pc' := 8) (L' := [some (.ref 65), some (.int (nI p)), some (.int (nI q))]) (st' := [.int (8 + (nI p)), .ref 66]) (h' := kv_wd g w) rfl ?_
  refine kx_ia (k := 8 + p) rfl rfl (by decide) (kx_i8 p) (by omega) (by decide) ?_
  refine kx_st 5 (pc' := 17) (L' := [some (.ref 65), some (.int (nI p)), some (.int (nI q))]) (st' := [.int (14 + (nI q)), .ref 66, .int (g 66 (8 + p))]) (h' := kv_wd g w) rfl ?_
  refine kx_ia (k := 14 + q) rfl rfl (by decide) (kx_i14 q) (by omega) (by decide) ?_
  refine kx_st 1 (pc' := 19) (L' := [some (.ref 65), some (.int (nI p)), some (.int (nI q))]) (st' := [.int ((g 66 (8 + p)) + (g 66 (14 + q)))]) (h' := kv_wd g w) rfl ?_
  refine kx_ret (v := some (.int ((g 66 (8 + p)) + (g 66 (14 + q))))) rfl ?_
  exact ⟨rfl, rfl⟩
set_option maxRecDepth 100000 in
theorem ev_held {E : kv_V} {d : Nat} {g : kv_S} {w : kv_W} (v a b : Int32) : kv_ev E (d + 1) 132 [.int v, .int a, .int b] (kv_wd g w) (some (.int (if v < a then a else if b < v then b else v))) (kv_wd g w) := by
  refine kx_ev (d := d + 0) (by decide) (Nat.le_of_ble_eq_true rfl) ?_
  refine kx_st 0 (pc' := 0) (L' := [some (.int v), some (.int a), some (.int b)]) (st' := []) (h' := kv_wd g w) rfl ?_
  refine kx_st 2 (pc' := 2) (L' := [some (.int v), some (.int a), some (.int b)]) (st' := [.int a, .int v]) (h' := kv_wd g w) rfl ?_
  refine kx_bi (t := 9) rfl rfl (fun (h2 : a ≤ v) => ?_) (fun (h2 : ¬ (a ≤ v)) => ?_)
  · refine kx_st 2 (pc' := 11) (L' := [some (.int v), some (.int a), some (.int b)]) (st' := [.int b, .int v]) (h' := kv_wd g w) rfl ?_
    refine kx_bi (t := 18) rfl rfl (fun (h11 : v ≤ b) => ?_) (fun (h11 : ¬ (v ≤ b)) => ?_)
    · refine kx_st 1 (pc' := 19) (L' := [some (.int v), some (.int a), some (.int b)]) (st' := [.int v]) (h' := kv_wd g w) rfl ?_
      refine kx_ret (v := some (.int v)) rfl ?_
      exact ⟨by grind [Int32.not_lt, Int32.not_le], rfl⟩
    · refine kx_st 0 (pc' := 14) (L' := [some (.int v), some (.int a), some (.int b)]) (st' := []) (h' := kv_wd g w) rfl ?_
      refine kx_st 2 (pc' := 19) (L' := [some (.int v), some (.int a), some (.int b)]) (st' := [.int b]) (h' := kv_wd g w) rfl ?_
      refine kx_ret (v := some (.int b)) rfl ?_
      exact ⟨by grind [Int32.not_lt, Int32.not_le], rfl⟩
  · refine kx_st 0 (pc' := 5) (L' := [some (.int v), some (.int a), some (.int b)]) (st' := []) (h' := kv_wd g w) rfl ?_
    refine kx_st 2 (pc' := 19) (L' := [some (.int v), some (.int a), some (.int b)]) (st' := [.int a]) (h' := kv_wd g w) rfl ?_
    refine kx_ret (v := some (.int a)) rfl ?_
    exact ⟨by grind [Int32.not_lt, Int32.not_le], rfl⟩
