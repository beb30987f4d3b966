/-! LOOPS -/
def kx_mv (f f' : Nat → Int32) (k : Nat) : Nat → Int32 := fun j => if j < k then f j else f' j
theorem kx_mv_0 (f f' : Nat → Int32) : kx_mv f f' 0 = f' := by funext j; simp [kx_mv]
theorem kx_mv_s (f f' : Nat → Int32) (k : Nat) : upd (kx_mv f f' k) k (f k) = kx_mv f f' (k + 1) := by
  funext j
  unfold upd kx_mv
  by_cases h : j = k
  · subst h; rw [if_pos rfl, if_pos (by omega)]
  · rw [if_neg h]
    by_cases h2 : j < k
    · rw [if_pos h2, if_pos (by omega)]
    · rw [if_neg h2, if_neg (by omega)]
theorem kx_mv_up (g : kv_S) (b k : Nat) (f f' : Nat → Int32) : kv_up (kv_uf g b (kx_mv f f' k)) b k (f k) = kv_uf g b (kx_mv f f' (k + 1)) := by
  rw [kv_up_uf, kv_uf_self, kx_mv_s, kv_uf_uf]
def kx_sum (f : Nat → Int32) : Nat → Int32
  | 0 => 0
  | k + 1 => kx_sum f k + f k
def kx_or (f : Nat → Int32) : Nat → Int32
  | 0 => 0
  | k + 1 => kx_or f k ||| f k
theorem kx_sum_congr {f f' : Nat → Int32} {n : Nat} (h : ∀ k, k < n → f k = f' k) : kx_sum f n = kx_sum f' n := by
  induction n with
  | zero => rfl
  | succ n ih => rw [kx_sum, kx_sum, ih (fun k hk => h k (by omega)), h n (by omega)]
theorem kx_or_congr {f f' : Nat → Int32} {n : Nat} (h : ∀ k, k < n → f k = f' k) : kx_or f n = kx_or f' n := by
  induction n with
  | zero => rfl
  | succ n ih => rw [kx_or, kx_or, ih (fun k hk => h k (by omega)), h n (by omega)]
theorem kx_nI268 : (268 : Int32) = nI 268 := rfl
theorem kx_or0 (x : Int32) : x ||| 0 = x := by simp
set_option maxRecDepth 100000 in
theorem lp_moveAll {E : kv_V} {d : Nat} {g : kv_S} {w : kv_W} {a b : Nat} (ha : kv_an0 a = some 268) (hb : kv_an0 b = some 268) (la : a < 76) (lb : b < 76) (hne : a ≠ b) {P : Option Value → kv_H → Prop} (hP : P none (kv_wd (kv_uf g b (kx_mv (g a) (g b) 268)) w)) : ∀ n k : Nat, k + n = 268 → kx_V E d 133 2 [some (.ref 65), some (.ref a), some (.ref b), some (.int (nI k))] [] (kv_wd (kv_uf g b (kx_mv (g a) (g b) k)) w) P := by
  intro n
  induction n with
  | zero =>
    intro k hk
    have hkN : k = 268 := by omega
    refine kx_st 2 (pc' := 6) (L' := [some (.ref 65), some (.ref a), some (.ref b), some (.int (nI k))]) (st' := [.int 268, .int (nI k)]) (h' := kv_wd (kv_uf g b (kx_mv (g a) (g b) k)) w) rfl ?_
    refine kx_bi (t := 21) rfl rfl (fun (h6 : 268 ≤ nI k) => ?_) (fun (h6 : ¬ (268 ≤ nI k)) => ?_)
    · refine kx_ret (v := none) rfl ?_
      subst hkN
      exact hP
    · exact absurd (nI_le (a := 268) (b := k) (by omega) (by omega)) h6
  | succ n ih =>
    intro k hk
    refine kx_st 2 (pc' := 6) (L' := [some (.ref 65), some (.ref a), some (.ref b), some (.int (nI k))]) (st' := [.int 268, .int (nI k)]) (h' := kv_wd (kv_uf g b (kx_mv (g a) (g b) k)) w) rfl ?_
    refine kx_bi (t := 21) rfl rfl (fun (h6 : 268 ≤ nI k) => ?_) (fun (h6 : ¬ (268 ≤ nI k)) => ?_)
    · exact absurd h6 (nI_ge (a := k) (b := 268) (by omega) (by omega))
    · refine kx_st 0 (pc' := 9) (L' := [some (.ref 65), some (.ref a), some (.ref b), some (.int (nI k))]) (st' := []) (h' := kv_wd (kv_uf g b (kx_mv (g a) (g b) k)) w) rfl ?_
      refine kx_st 4 (pc' := 13) (L' := [some (.ref 65), some (.ref a), some (.ref b), some (.int (nI k))]) (st' := [.int (nI k), .ref a, .int (nI k), .ref b]) (h' := kv_wd (kv_uf g b (kx_mv (g a) (g b) k)) w) rfl ?_
      refine kx_ia (k := k) rfl ha la rfl (by omega) (by decide) ?_
      refine kx_is (k := k) rfl hb lb rfl (by omega) (by decide) ?_
      refine kx_st 2 (pc' := 2) (L' := [some (.ref 65), some (.ref a), some (.ref b), some (.int ((nI k) + 1))]) (st' := []) (h' := kv_wd (kv_up (kv_uf g b (kx_mv (g a) (g b) k)) b k ((kv_uf g b (kx_mv (g a) (g b) k)) a k)) w) rfl ?_
      rw [kv_uf_ne hne, kx_mv_up, ← nI_succ]
      exact ih (k + 1) (by omega)
set_option maxRecDepth 100000 in
theorem ev_moveAll {E : kv_V} {d : Nat} {g : kv_S} {w : kv_W} {a b : Nat} (ha : kv_an0 a = some 268) (hb : kv_an0 b = some 268) (la : a < 76) (lb : b < 76) (hne : a ≠ b) : kv_ev E (d + 1) 133 [.ref 65, .ref a, .ref b] (kv_wd g w) none (kv_wd (kv_uf g b (kx_mv (g a) (g b) 268)) w) := by
  refine kx_ev (d := d + 0) (by decide) (Nat.le_of_ble_eq_true rfl) ?_
  refine kx_st 0 (pc' := 0) (L' := [some (.ref 65), some (.ref a), some (.ref b), none]) (st' := []) (h' := kv_wd g w) rfl ?_
  refine kx_st 2 (pc' := 2) (L' := [some (.ref 65), some (.ref a), some (.ref b), some (.int 0)]) (st' := []) (h' := kv_wd g w) rfl ?_
  have h := lp_moveAll (E := E) (d := d) (g := g) (w := w) (P := fun v h' => v = none ∧ h' = kv_wd (kv_uf g b (kx_mv (g a) (g b) 268)) w) ha hb la lb hne ⟨rfl, rfl⟩ 268 0 (by omega)
  rw [kx_mv_0, kv_uf_id] at h
  exact h
set_option maxRecDepth 100000 in
theorem lp_together {E : kv_V} {d : Nat} {g : kv_S} {w : kv_W} {a : Nat} (ha : kv_hd a) (s : Nat) (hs : s ≤ 6) {P : Option Value → kv_H → Prop} (hP : P (some (.int (kx_sum (fun j => g (a + 1) j + g (a + 2) j) s))) (kv_wd g w)) : ∀ n k : Nat, k + n = s → kx_V E d 6 4 [some (.ref a), some (.int (nI s)), some (.int (kx_sum (fun j => g (a + 1) j + g (a + 2) j) k)), some (.int (nI k))] [] (kv_wd g w) P := by
  intro n
  induction n with
  | zero =>
    intro k hk
    have hkN : k = s := by omega
    refine kx_st 2 (pc' := 6) (L' := [some (.ref a), some (.int (nI s)), some (.int (kx_sum (fun j => g (a + 1) j + g (a + 2) j) k)), some (.int (nI k))]) (st' := [.int (nI s), .int (nI k)]) (h' := kv_wd g w) rfl ?_
    refine kx_bi (t := 40) rfl rfl (fun (h6 : nI s ≤ nI k) => ?_) (fun (h6 : ¬ (nI s ≤ nI k)) => ?_)
    · refine kx_st 1 (pc' := 41) (L' := [some (.ref a), some (.int (nI s)), some (.int (kx_sum (fun j => g (a + 1) j + g (a + 2) j) k)), some (.int (nI k))]) (st' := [.int (kx_sum (fun j => g (a + 1) j + g (a + 2) j) k)]) (h' := kv_wd g w) rfl ?_
      refine kx_ret (v := some (.int (kx_sum (fun j => g (a + 1) j + g (a + 2) j) k))) rfl ?_
      subst hkN
      exact hP
    · exact absurd (nI_le (a := s) (b := k) (by omega) (by omega)) h6
  | succ n ih =>
    intro k hk
    refine kx_st 2 (pc' := 6) (L' := [some (.ref a), some (.int (nI s)), some (.int (kx_sum (fun j => g (a + 1) j + g (a + 2) j) k)), some (.int (nI k))]) (st' := [.int (nI s), .int (nI k)]) (h' := kv_wd g w) rfl ?_
    refine kx_bi (t := 40) rfl rfl (fun (h6 : nI s ≤ nI k) => ?_) (fun (h6 : ¬ (nI s ≤ nI k)) => ?_)
    · exact absurd h6 (nI_ge (by omega) (by omega))
    · refine kx_st 0 (pc' := 9) (L' := [some (.ref a), some (.int (nI s)), some (.int (kx_sum (fun j => g (a + 1) j + g (a + 2) j) k)), some (.int (nI k))]) (st' := []) (h' := kv_wd g w) rfl ?_
      refine kx_st 2 (pc' := 11) (L' := [some (.ref a), some (.int (nI s)), some (.int (kx_sum (fun j => g (a + 1) j + g (a + 2) j) k)), some (.int (nI k))]) (st' := [.ref a, .int (nI k)]) (h' := kv_wd g w) rfl ?_
      refine kx_gf (i := 9) (k := 0) (v := .ref (a + 1)) rfl rfl ha.1 (ha.2.1 _ _) rfl ?_
      refine kx_al (n := 6) rfl ha.2.2.1 (by have := ha.2.2.2.2; omega) ?_
      refine kx_bi (t := 40) rfl rfl (fun (h15 : 6 ≤ nI k) => ?_) (fun (h15 : ¬ (6 ≤ nI k)) => ?_)
      · exact absurd h15 (nI_ge (a := k) (b := 6) (by omega) (by omega))
      · refine kx_st 0 (pc' := 18) (L' := [some (.ref a), some (.int (nI s)), some (.int (kx_sum (fun j => g (a + 1) j + g (a + 2) j) k)), some (.int (nI k))]) (st' := []) (h' := kv_wd g w) rfl ?_
        refine kx_st 2 (pc' := 20) (L' := [some (.ref a), some (.int (nI s)), some (.int (kx_sum (fun j => g (a + 1) j + g (a + 2) j) k)), some (.int (nI k))]) (st' := [.ref a, .int (kx_sum (fun j => g (a + 1) j + g (a + 2) j) k)]) (h' := kv_wd g w) rfl ?_
        refine kx_gf (i := 9) (k := 0) (v := .ref (a + 1)) rfl rfl ha.1 (ha.2.1 _ _) rfl ?_
        refine kx_st 1 (pc' := 24) (L' := [some (.ref a), some (.int (nI s)), some (.int (kx_sum (fun j => g (a + 1) j + g (a + 2) j) k)), some (.int (nI k))]) (st' := [.int (nI k), .ref (a + 1), .int (kx_sum (fun j => g (a + 1) j + g (a + 2) j) k)]) (h' := kv_wd g w) rfl ?_
        refine kx_ia (k := k) rfl ha.2.2.1 (by have := ha.2.2.2.2; omega) rfl (by omega) (by decide) ?_
        refine kx_st 1 (pc' := 26) (L' := [some (.ref a), some (.int (nI s)), some (.int (kx_sum (fun j => g (a + 1) j + g (a + 2) j) k)), some (.int (nI k))]) (st' := [.ref a, .int (g (a + 1) k), .int (kx_sum (fun j => g (a + 1) j + g (a + 2) j) k)]) (h' := kv_wd g w) rfl ?_
        refine kx_gf (i := 15) (k := 1) (v := .ref (a + 2)) rfl rfl ha.1 (ha.2.1 _ _) rfl ?_
        refine kx_st 1 (pc' := 30) (L' := [some (.ref a), some (.int (nI s)), some (.int (kx_sum (fun j => g (a + 1) j + g (a + 2) j) k)), some (.int (nI k))]) (st' := [.int (nI k), .ref (a + 2), .int (g (a + 1) k), .int (kx_sum (fun j => g (a + 1) j + g (a + 2) j) k)]) (h' := kv_wd g w) rfl ?_
        refine kx_ia (k := k) rfl ha.2.2.2.1 ha.2.2.2.2 rfl (by omega) (by decide) ?_
        refine kx_st 5 (pc' := 4) (L' := [some (.ref a), some (.int (nI s)), some (.int ((kx_sum (fun j => g (a + 1) j + g (a + 2) j) k) + ((g (a + 1) k) + (g (a + 2) k)))), some (.int ((nI k) + 1))]) (st' := []) (h' := kv_wd g w) rfl ?_
        rw [← nI_succ]
        exact ih (k + 1) (by omega)
set_option maxRecDepth 100000 in
theorem ev_together {E : kv_V} {d : Nat} {g : kv_S} {w : kv_W} {a : Nat} (ha : kv_hd a) (s : Nat) (hs : s ≤ 6) : kv_ev E (d + 1) 6 [.ref a, .int (nI s)] (kv_wd g w) (some (.int (kx_sum (fun j => g (a + 1) j + g (a + 2) j) s))) (kv_wd g w) := by
  refine kx_ev (d := d + 0) (by decide) (Nat.le_of_ble_eq_true rfl) ?_
  refine kx_st 0 (pc' := 0) (L' := [some (.ref a), some (.int (nI s)), none, none]) (st' := []) (h' := kv_wd g w) rfl ?_
  refine kx_st 4 (pc' := 4) (L' := [some (.ref a), some (.int (nI s)), some (.int 0), some (.int 0)]) (st' := []) (h' := kv_wd g w) rfl ?_
  exact lp_together ha s hs ⟨rfl, rfl⟩ s 0 (by omega)
set_option maxRecDepth 100000 in
theorem lp_hands {E : kv_V} {d : Nat} {g : kv_S} {w : kv_W} (s : Nat) (hs : s ≤ 6) (hs3 : g 66 3 = nI s) {P : Option Value → kv_H → Prop} (hP : P (some (.int (kx_sum (fun j => g 66 (8 + j) + g 66 (14 + j)) s))) (kv_wd g w)) : ∀ n k : Nat, k + n = s → kx_V E (d + 1) 180 4 [some (.ref 65), some (.int (kx_sum (fun j => g 66 (8 + j) + g 66 (14 + j)) k)), some (.int (nI k))] [] (kv_wd g w) P := by
  intro n
  induction n with
  | zero =>
    intro k hk
    have hkN : k = s := by omega
    refine kx_st 4 (pc' := 10) (L' := [some (.ref 65), some (.int (kx_sum (fun j => g 66 (8 + j) + g 66 (14 + j)) k)), some (.int (nI k))]) (st' := [.int 3, .ref 66, .int (nI k)]) (h' := kv_wd g w) rfl ?_
    refine kx_ia (k := 3) rfl rfl (by decide) rfl (by decide) (by decide) ?_
    refine kx_bi (t := 29) rfl rfl (fun (h11 : g 66 3 ≤ nI k) => ?_) (fun (h11 : ¬ (g 66 3 ≤ nI k)) => ?_)
    · refine kx_st 1 (pc' := 30) (L' := [some (.ref 65), some (.int (kx_sum (fun j => g 66 (8 + j) + g 66 (14 + j)) k)), some (.int (nI k))]) (st' := [.int (kx_sum (fun j => g 66 (8 + j) + g 66 (14 + j)) k)]) (h' := kv_wd g w) rfl ?_
      refine kx_ret (v := some (.int (kx_sum (fun j => g 66 (8 + j) + g 66 (14 + j)) k))) rfl ?_
      subst hkN
      exact hP
    · exact absurd (by rw [hs3]; exact nI_le (a := s) (b := k) (by omega) (by omega)) h11
  | succ n ih =>
    intro k hk
    refine kx_st 4 (pc' := 10) (L' := [some (.ref 65), some (.int (kx_sum (fun j => g 66 (8 + j) + g 66 (14 + j)) k)), some (.int (nI k))]) (st' := [.int 3, .ref 66, .int (nI k)]) (h' := kv_wd g w) rfl ?_
    refine kx_ia (k := 3) rfl rfl (by decide) rfl (by decide) (by decide) ?_
    refine kx_bi (t := 29) rfl rfl (fun (h11 : g 66 3 ≤ nI k) => ?_) (fun (h11 : ¬ (g 66 3 ≤ nI k)) => ?_)
    · exact absurd h11 (by rw [hs3]; exact nI_ge (by omega) (by omega))
    · refine kx_st 0 (pc' := 14) (L' := [some (.ref 65), some (.int (kx_sum (fun j => g 66 (8 + j) + g 66 (14 + j)) k)), some (.int (nI k))]) (st' := []) (h' := kv_wd g w) rfl ?_
      refine kx_st 4 (pc' := 18) (L' := [some (.ref 65), some (.int (kx_sum (fun j => g 66 (8 + j) + g 66 (14 + j)) k)), some (.int (nI k))]) (st' := [.int (nI k), .int (nI k), .ref 65, .int (kx_sum (fun j => g 66 (8 + j) + g 66 (14 + j)) k)]) (h' := kv_wd g w) rfl ?_
      refine kx_call (z := 146) (as := [.ref 65, .int (nI k), .int (nI k)]) (rest := [.int (kx_sum (fun j => g 66 (8 + j) + g 66 (14 + j)) k)]) (v := some (.int (g 66 (8 + k) + g 66 (14 + k)))) (h1 := kv_wd g w) rfl (ev_crossed (d := d) k k (by omega) (by omega)) ?_
      refine kx_st 0 (pc' := 21) (L' := [some (.ref 65), some (.int (kx_sum (fun j => g 66 (8 + j) + g 66 (14 + j)) k)), some (.int (nI k))]) (st' := [.int (g 66 (8 + k) + g 66 (14 + k)), .int (kx_sum (fun j => g 66 (8 + j) + g 66 (14 + j)) k)]) (h' := kv_wd g w) rfl ?_
      refine kx_st 4 (pc' := 4) (L' := [some (.ref 65), some (.int ((kx_sum (fun j => g 66 (8 + j) + g 66 (14 + j)) k) + (g 66 (8 + k) + g 66 (14 + k)))), some (.int ((nI k) + 1))]) (st' := []) (h' := kv_wd g w) rfl ?_
      rw [← nI_succ]
      exact ih (k + 1) (by omega)
set_option maxRecDepth 100000 in
theorem ev_hands {E : kv_V} {d : Nat} {g : kv_S} {w : kv_W} (s : Nat) (hs : s ≤ 6) (hs3 : g 66 3 = nI s) : kv_ev E (d + 2) 180 [.ref 65] (kv_wd g w) (some (.int (kx_sum (fun j => g 66 (8 + j) + g 66 (14 + j)) s))) (kv_wd g w) := by
  refine kx_ev (d := d + 1) (by decide) (Nat.le_of_ble_eq_true rfl) ?_
  refine kx_st 0 (pc' := 0) (L' := [some (.ref 65), none, none]) (st' := []) (h' := kv_wd g w) rfl ?_
  refine kx_st 4 (pc' := 4) (L' := [some (.ref 65), some (.int 0), some (.int 0)]) (st' := []) (h' := kv_wd g w) rfl ?_
  exact lp_hands s hs hs3 ⟨rfl, rfl⟩ s 0 (by omega)
