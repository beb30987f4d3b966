/-! PAIRS: fits, loads -/
section KC11
variable {E : kv_V} {d : Nat} {g : kv_S} {w : kv_W}
theorem ev_handL {a : Nat} (ha : kv_hd a) (k : Nat) (hk : k < 6) : kv_ev E (d + 1) 2 [.ref a, .int (nI k), .int 0] (kv_wd g w) (some (.int (g (a + 1) k))) (kv_wd g w) := by
  have := ev_handOf (E := E) (d := d) (g := g) (w := w) ha k hk 0
  rw [if_pos rfl] at this
  exact this
theorem ev_handR {a : Nat} (ha : kv_hd a) (k : Nat) (hk : k < 6) : kv_ev E (d + 1) 2 [.ref a, .int (nI k), .int 1] (kv_wd g w) (some (.int (g (a + 2) k))) (kv_wd g w) := by
  have := ev_handOf (E := E) (d := d) (g := g) (w := w) ha k hk 1
  rw [if_neg (by decide)] at this
  exact this
end KC11
set_option maxRecDepth 100000 in
theorem ev_crossing {E : kv_V} {d : Nat} {g : kv_S} {w : kv_W} {a : Nat} (ha : kv_hd a) (p q : Nat) (hp : p < 6) (hq : q < 6) : kv_ev E (d + 2) 4 [.ref a, .int (nI p), .int (nI q)] (kv_wd g w) (some (.int (g (a + 1) p + g (a + 2) q))) (kv_wd g w) := by
  refine kx_ev (d := d + 1) (by decide) (Nat.le_of_ble_eq_true rfl) ?_
  refine kx_st 0 (pc' := 0) (L' := [some (.ref a), some (.int (nI p)), some (.int (nI q))]) (st' := []) (h' := kv_wd g w) rfl ?_
  refine kx_st 3 (pc' := 3) (L' := [some (.ref a), some (.int (nI p)), some (.int (nI q))]) (st' := [.int 0, .int (nI p), .ref a]) (h' := kv_wd g w) rfl ?_
  refine kx_call (z := 2) (as := [.ref a, .int (nI p), .int 0]) (rest := []) (v := some (.int (g (a + 1) p))) (h1 := kv_wd g w) (kx_cv (b := a) (A := [.int (nI p), .int 0]) (rest := []) rfl rfl rfl rfl (Nat.le_of_ble_eq_true rfl) ha.1 (ha.2.1 _ _)) (ev_handL (d := d) ha p hp) ?_
  refine kx_st 0 (pc' := 6) (L' := [some (.ref a), some (.int (nI p)), some (.int (nI q))]) (st' := [.int (g (a + 1) p)]) (h' := kv_wd g w) rfl ?_
  refine kx_st 3 (pc' := 9) (L' := [some (.ref a), some (.int (nI p)), some (.int (nI q))]) (st' := [.int 1, .int (nI q), .ref a, .int (g (a + 1) p)]) (h' := kv_wd g w) rfl ?_
  refine kx_call (z := 2) (as := [.ref a, .int (nI q), .int 1]) (rest := [.int (g (a + 1) p)]) (v := some (.int (g (a + 2) q))) (h1 := kv_wd g w) (kx_cv (b := a) (A := [.int (nI q), .int 1]) (rest := [.int (g (a + 1) p)]) rfl rfl rfl rfl (Nat.le_of_ble_eq_true rfl) ha.1 (ha.2.1 _ _)) (ev_handR (d := d) ha q hq) ?_
  refine kx_st 0 (pc' := 12) (L' := [some (.ref a), some (.int (nI p)), some (.int (nI q))]) (st' := [.int (g (a + 2) q), .int (g (a + 1) p)]) (h' := kv_wd g w) rfl ?_
  refine kx_st 1 (pc' := 13) (L' := [some (.ref a), some (.int (nI p)), some (.int (nI q))]) (st' := [.int ((g (a + 1) p) + (g (a + 2) q))]) (h' := kv_wd g w) rfl ?_
  refine kx_ret (v := some (.int ((g (a + 1) p) + (g (a + 2) q)))) rfl ?_
  exact ⟨rfl, rfl⟩
set_option maxRecDepth 100000 in
theorem ev_pull {E : kv_V} {d : Nat} {g : kv_S} {w : kv_W} {a : Nat} (ha : kv_hd a) (p q : Nat) (hp : p < 6) (hq : q < 6) : kv_ev E (d + 2) 5 [.ref a, .int (nI p), .int (nI q)] (kv_wd g w) (some (.int (g (a + 2) p + g (a + 1) q))) (kv_wd g w) := by
  refine kx_ev (d := d + 1) (by decide) (Nat.le_of_ble_eq_true rfl) ?_
  refine kx_st 0 (pc' := 0) (L' := [some (.ref a), some (.int (nI p)), some (.int (nI q))]) (st' := []) (h' := kv_wd g w) rfl ?_
  refine kx_st 3 (pc' := 3) (L' := [some (.ref a), some (.int (nI p)), some (.int (nI q))]) (st' := [.int 1, .int (nI p), .ref a]) (h' := kv_wd g w) rfl ?_
  refine kx_call (z := 2) (as := [.ref a, .int (nI p), .int 1]) (rest := []) (v := some (.int (g (a + 2) p))) (h1 := kv_wd g w) (kx_cv (b := a) (A := [.int (nI p), .int 1]) (rest := []) rfl rfl rfl rfl (Nat.le_of_ble_eq_true rfl) ha.1 (ha.2.1 _ _)) (ev_handR (d := d) ha p hp) ?_
  refine kx_st 0 (pc' := 6) (L' := [some (.ref a), some (.int (nI p)), some (.int (nI q))]) (st' := [.int (g (a + 2) p)]) (h' := kv_wd g w) rfl ?_
  refine kx_st 3 (pc' := 9) (L' := [some (.ref a), some (.int (nI p)), some (.int (nI q))]) (st' := [.int 0, .int (nI q), .ref a, .int (g (a + 2) p)]) (h' := kv_wd g w) rfl ?_
  refine kx_call (z := 2) (as := [.ref a, .int (nI q), .int 0]) (rest := [.int (g (a + 2) p)]) (v := some (.int (g (a + 1) q))) (h1 := kv_wd g w) (kx_cv (b := a) (A := [.int (nI q), .int 0]) (rest := [.int (g (a + 2) p)]) rfl rfl rfl rfl (Nat.le_of_ble_eq_true rfl) ha.1 (ha.2.1 _ _)) (ev_handL (d := d) ha q hq) ?_
  refine kx_st 0 (pc' := 12) (L' := [some (.ref a), some (.int (nI p)), some (.int (nI q))]) (st' := [.int (g (a + 1) q), .int (g (a + 2) p)]) (h' := kv_wd g w) rfl ?_
  refine kx_st 1 (pc' := 13) (L' := [some (.ref a), some (.int (nI p)), some (.int (nI q))]) (st' := [.int ((g (a + 2) p) + (g (a + 1) q))]) (h' := kv_wd g w) rfl ?_
  refine kx_ret (v := some (.int ((g (a + 2) p) + (g (a + 1) q)))) rfl ?_
  exact ⟨rfl, rfl⟩
set_option maxRecDepth 100000 in
theorem ev_crossingNow {E : kv_V} {d : Nat} {g : kv_S} {w : kv_W} (hq : kv_qok w) (k : Nat) (hk : k < 8) (hc : nI k < g 1 4) (x z : Nat) (hx : x < 6) (hz : z < 6) (x2 : g (14 + k) 2 = nI x) (z3 : g (14 + k) 3 = nI z) : kv_ev E (d + 3) 24 [.ref 1, .int (nI k)] (kv_wd g w) (some (.int (g 3 x + g 4 z))) (kv_wd g w) := by
  refine kx_ev (d := d + 2) (by decide) (Nat.le_of_ble_eq_true rfl) ?_
  refine kx_st 0 (pc' := 0) (L' := [some (.ref 1), some (.int (nI k)), none]) (st' := []) (h' := kv_wd g w) rfl ?_
  refine kx_st 2 (pc' := 2) (L' := [some (.ref 1), some (.int (nI k)), none]) (st' := [.int (nI k), .ref 1]) (h' := kv_wd g w) rfl ?_
  refine kx_call (z := 17) (as := [.ref 1, .int (nI k)]) (rest := []) (v := some (.ref (14 + k))) (h1 := kv_wd g w) rfl (ev_knotAt (d := d + 1) (g := g) hq k hk hc) ?_
  refine kx_st 0 (pc' := 5) (L' := [some (.ref 1), some (.int (nI k)), none]) (st' := [.ref (14 + k)]) (h' := kv_wd g w) rfl ?_
  refine kx_st 2 (pc' := 7) (L' := [some (.ref 1), some (.int (nI k)), some (.ref (14 + k))]) (st' := [.ref (14 + k)]) (h' := kv_wd g w) rfl ?_
  refine kx_st 1 (pc' := 14) (L' := [some (.ref 1), some (.int (nI k)), some (.ref (14 + k))]) (st' := []) (h' := kv_wd g w) rfl ?_
  refine kx_st 3 (pc' := 19) (L' := [some (.ref 1), some (.int (nI k)), some (.ref (14 + k))]) (st' := [.ref (14 + k), .ref 2]) (h' := kv_wd g w) rfl ?_
  refine kx_gf (i := 101) (k := 2) (v := .int (g (14 + k) 2)) rfl rfl (kv_kn_h hk).1 ((kv_kn_h hk).2 _ _) rfl ?_
  refine kx_st 1 (pc' := 23) (L' := [some (.ref 1), some (.int (nI k)), some (.ref (14 + k))]) (st' := [.ref (14 + k), .int (g (14 + k) 2), .ref 2]) (h' := kv_wd g w) rfl ?_
  refine kx_gf (i := 104) (k := 3) (v := .int (g (14 + k) 3)) rfl rfl (kv_kn_h hk).1 ((kv_kn_h hk).2 _ _) rfl ?_
  refine kx_call (z := 4) (as := [.ref 2, .int (g (14 + k) 2), .int (g (14 + k) 3)]) (rest := []) (v := some (.int (g 3 x + g 4 z))) (h1 := kv_wd g w) rfl (by rw [x2, z3]; exact ev_crossing (d := d) kv_hd2 x z hx hz) ?_
  refine kx_st 0 (pc' := 29) (L' := [some (.ref 1), some (.int (nI k)), some (.ref (14 + k))]) (st' := [.int (g 3 x + g 4 z)]) (h' := kv_wd g w) rfl ?_
  refine kx_ret (v := some (.int (g 3 x + g 4 z))) rfl ?_
  exact ⟨rfl, rfl⟩
set_option maxRecDepth 100000 in
theorem lp_xfits {E : kv_V} {d : Nat} {g : kv_S} {w : kv_W} (hq : kv_qok w) (k : Nat) (hk : k < 4) (n m e : Nat) (hn : g (56 + 2 * k) 1 = nI n) (n40 : n ≤ 40) (hm : g 1 4 = nI m) (m8 : m ≤ 8) (he : e ≤ min n m) (V : Nat → Int32) (hV : ∀ j, j < m → ∃ x z, x < 6 ∧ z < 6 ∧ g (14 + j) 2 = nI x ∧ g (14 + j) 3 = nI z ∧ g 3 x + g 4 z = V j) (hp : ∀ j, j < e → g (57 + 2 * k) j = V j) (hx : e = min n m ∨ ¬ g (57 + 2 * k) e = V e) {P : Option Value → kv_H → Prop} (hP : P (some (.int (nI e))) (kv_wd g w)) : ∀ nz j : Nat, j + nz = e → kx_V E (d + 3) 108 47 [some (.ref 0), some (.int (nI k)), some (.ref (56 + 2 * k)), some (.int (nI j)), some (.int (nI (min n m)))] [] (kv_wd g w) P := by
  intro nz
  induction nz with
  | zero =>
    intro j hkk
    have hkN : j = e := by omega
    have hmn := Nat.min_le_left n m
    have hmm := Nat.min_le_right n m
    refine kx_st 2 (pc' := 50) (L' := [some (.ref 0), some (.int (nI k)), some (.ref (56 + 2 * k)), some (.int (nI j)), some (.int (nI (min n m)))]) (st' := [.int (nI (min n m)), .int (nI j)]) (h' := kv_wd g w) rfl ?_
    refine kx_bi (t := 76) rfl rfl (fun (h50 : nI (min n m) ≤ nI j) => ?_) (fun (h50 : ¬ (nI (min n m) ≤ nI j)) => ?_)
    · refine kx_st 1 (pc' := 77) (L' := [some (.ref 0), some (.int (nI k)), some (.ref (56 + 2 * k)), some (.int (nI j)), some (.int (nI (min n m)))]) (st' := [.int (nI j)]) (h' := kv_wd g w) rfl ?_
      refine kx_ret (v := some (.int (nI j))) rfl ?_
      subst hkN
      exact hP
    · have h50b : j < min n m := by have := h50; rw [Int32.le_iff_toInt_le, nI_toInt (by omega), nI_toInt (by omega)] at this; omega
      obtain ⟨x, z, x6, z6, x2, z3, xz⟩ := hV j (by omega)
      refine kx_st 0 (pc' := 53) (L' := [some (.ref 0), some (.int (nI k)), some (.ref (56 + 2 * k)), some (.int (nI j)), some (.int (nI (min n m)))]) (st' := []) (h' := kv_wd g w) rfl ?_
      refine kx_st 1 (pc' := 54) (L' := [some (.ref 0), some (.int (nI k)), some (.ref (56 + 2 * k)), some (.int (nI j)), some (.int (nI (min n m)))]) (st' := [.ref (56 + 2 * k)]) (h' := kv_wd g w) rfl ?_
      refine kx_gf (i := 263) (k := 2) (v := .ref (57 + 2 * k)) rfl rfl (by have := (kv_st_h hk).1; omega) ((kv_st_h hk).2.1 _ _) rfl ?_
      refine kx_st 1 (pc' := 58) (L' := [some (.ref 0), some (.int (nI k)), some (.ref (56 + 2 * k)), some (.int (nI j)), some (.int (nI (min n m)))]) (st' := [.int (nI j), .ref (57 + 2 * k)]) (h' := kv_wd g w) rfl ?_
      refine kx_ia (k := j) rfl (kv_st_h hk).2.2 (kv_st_h hk).1 rfl (by omega) (by decide) ?_
      refine kx_st 3 (pc' := 64) (L' := [some (.ref 0), some (.int (nI k)), some (.ref (56 + 2 * k)), some (.int (nI j)), some (.int (nI (min n m)))]) (st' := [.int (nI j), .ref 1, .int (g (57 + 2 * k) j)]) (h' := kv_wd g w) rfl ?_
      refine kx_call (z := 24) (as := [.ref 1, .int (nI j)]) (rest := [.int (g (57 + 2 * k) j)]) (v := some (.int (g 3 x + g 4 z))) (h1 := kv_wd g w) rfl (ev_crossingNow (d := d) hq j (by omega) (by rw [hm]; exact nI_lt (by omega) (by omega)) x z x6 z6 x2 z3) ?_
      refine kx_st 0 (pc' := 67) (L' := [some (.ref 0), some (.int (nI k)), some (.ref (56 + 2 * k)), some (.int (nI j)), some (.int (nI (min n m)))]) (st' := [.int (g 3 x + g 4 z), .int (g (57 + 2 * k) j)]) (h' := kv_wd g w) rfl ?_
      refine kx_bi (t := 76) rfl rfl (fun (h67 : ¬ g (57 + 2 * k) j = g 3 x + g 4 z) => ?_) (fun (h67 : ¬ (¬ g (57 + 2 * k) j = g 3 x + g 4 z)) => ?_)
      · refine kx_st 1 (pc' := 77) (L' := [some (.ref 0), some (.int (nI k)), some (.ref (56 + 2 * k)), some (.int (nI j)), some (.int (nI (min n m)))]) (st' := [.int (nI j)]) (h' := kv_wd g w) rfl ?_
        refine kx_ret (v := some (.int (nI j))) rfl ?_
        subst hkN
        exact hP
      · exact absurd (Classical.not_not.mp h67) (by rw [xz]; subst hkN; exact hx.resolve_left (fun hx => by omega))
  | succ nz ih =>
    intro j hkk
    have hmn := Nat.min_le_left n m
    have hmm := Nat.min_le_right n m
    refine kx_st 2 (pc' := 50) (L' := [some (.ref 0), some (.int (nI k)), some (.ref (56 + 2 * k)), some (.int (nI j)), some (.int (nI (min n m)))]) (st' := [.int (nI (min n m)), .int (nI j)]) (h' := kv_wd g w) rfl ?_
    refine kx_bi (t := 76) rfl rfl (fun (h50 : nI (min n m) ≤ nI j) => ?_) (fun (h50 : ¬ (nI (min n m) ≤ nI j)) => ?_)
    · exact absurd h50 (nI_ge (a := j) (b := min n m) (by omega) (by omega))
    · obtain ⟨x, z, x6, z6, x2, z3, xz⟩ := hV j (by omega)
      refine kx_st 0 (pc' := 53) (L' := [some (.ref 0), some (.int (nI k)), some (.ref (56 + 2 * k)), some (.int (nI j)), some (.int (nI (min n m)))]) (st' := []) (h' := kv_wd g w) rfl ?_
      refine kx_st 1 (pc' := 54) (L' := [some (.ref 0), some (.int (nI k)), some (.ref (56 + 2 * k)), some (.int (nI j)), some (.int (nI (min n m)))]) (st' := [.ref (56 + 2 * k)]) (h' := kv_wd g w) rfl ?_
      refine kx_gf (i := 263) (k := 2) (v := .ref (57 + 2 * k)) rfl rfl (by have := (kv_st_h hk).1; omega) ((kv_st_h hk).2.1 _ _) rfl ?_
      refine kx_st 1 (pc' := 58) (L' := [some (.ref 0), some (.int (nI k)), some (.ref (56 + 2 * k)), some (.int (nI j)), some (.int (nI (min n m)))]) (st' := [.int (nI j), .ref (57 + 2 * k)]) (h' := kv_wd g w) rfl ?_
      refine kx_ia (k := j) rfl (kv_st_h hk).2.2 (kv_st_h hk).1 rfl (by omega) (by decide) ?_
      refine kx_st 3 (pc' := 64) (L' := [some (.ref 0), some (.int (nI k)), some (.ref (56 + 2 * k)), some (.int (nI j)), some (.int (nI (min n m)))]) (st' := [.int (nI j), .ref 1, .int (g (57 + 2 * k) j)]) (h' := kv_wd g w) rfl ?_
      refine kx_call (z := 24) (as := [.ref 1, .int (nI j)]) (rest := [.int (g (57 + 2 * k) j)]) (v := some (.int (g 3 x + g 4 z))) (h1 := kv_wd g w) rfl (ev_crossingNow (d := d) hq j (by omega) (by rw [hm]; exact nI_lt (by omega) (by omega)) x z x6 z6 x2 z3) ?_
      refine kx_st 0 (pc' := 67) (L' := [some (.ref 0), some (.int (nI k)), some (.ref (56 + 2 * k)), some (.int (nI j)), some (.int (nI (min n m)))]) (st' := [.int (g 3 x + g 4 z), .int (g (57 + 2 * k) j)]) (h' := kv_wd g w) rfl ?_
      refine kx_bi (t := 76) rfl rfl (fun (h67 : ¬ g (57 + 2 * k) j = g 3 x + g 4 z) => ?_) (fun (h67 : ¬ (¬ g (57 + 2 * k) j = g 3 x + g 4 z)) => ?_)
      · exact absurd (by rw [xz]; exact hp j (by omega)) h67
      · refine kx_st 0 (pc' := 70) (L' := [some (.ref 0), some (.int (nI k)), some (.ref (56 + 2 * k)), some (.int (nI j)), some (.int (nI (min n m)))]) (st' := []) (h' := kv_wd g w) rfl ?_
        refine kx_st 2 (pc' := 47) (L' := [some (.ref 0), some (.int (nI k)), some (.ref (56 + 2 * k)), some (.int ((nI j) + 1)), some (.int (nI (min n m)))]) (st' := []) (h' := kv_wd g w) rfl ?_
        rw [← nI_succ]
        exact ih (j + 1) (by omega)
set_option maxRecDepth 100000 in
theorem lp_mfits {E : kv_V} {d : Nat} {g : kv_S} {w : kv_W} (k : Nat) (hk : k < 4) (n m e : Nat) (hn : g 72 k = nI n) (n40 : n ≤ 40) (hm : g 66 2 = nI m) (m8 : m ≤ 8) (he : e ≤ min n m) (V : Nat → Int32) (hV : ∀ j, j < m → ∃ x z, x < 6 ∧ z < 6 ∧ g 66 (26 + 9 * j + 2) = nI x ∧ g 66 (26 + 9 * j + 3) = nI z ∧ g 66 (8 + x) + g 66 (14 + z) = V j) (hp : ∀ j, j < e → g 73 (40 * k + j) = V j) (hx : e = min n m ∨ ¬ g 73 (40 * k + e) = V e) {P : Option Value → kv_H → Prop} (hP : P (some (.int (nI e))) (kv_wd g w)) : ∀ nz j : Nat, j + nz = e → kx_V E (d + 1) 201 32 [some (.ref 65), some (.int (nI k)), some (.int (nI j))] [] (kv_wd g w) P := by
  intro nz
  induction nz with
  | zero =>
    intro j hkk
    have hkN : j = e := by omega
    have hmn := Nat.min_le_left n m
    have hmm := Nat.min_le_right n m
    refine kx_st 4 (pc' := 38) (L' := [some (.ref 65), some (.int (nI k)), some (.int (nI j))]) (st' := [.int (nI k), .ref 72, .int (nI j)]) (h' := kv_wd g w) rfl ?_
    refine kx_ia (k := k) rfl rfl (by decide) rfl (by omega) (by decide) ?_
    refine kx_bi (t := 88) rfl rfl (fun (h39 : g 72 k ≤ nI j) => ?_) (fun (h39 : ¬ (g 72 k ≤ nI j)) => ?_)
    · refine kx_st 1 (pc' := 89) (L' := [some (.ref 65), some (.int (nI k)), some (.int (nI j))]) (st' := [.int (nI j)]) (h' := kv_wd g w) rfl ?_
      refine kx_ret (v := some (.int (nI j))) rfl ?_
      subst hkN
      exact hP
    · have h39b : j < n := by have := h39; rw [hn, Int32.le_iff_toInt_le, nI_toInt (by omega), nI_toInt (by omega)] at this; omega
      refine kx_st 0 (pc' := 42) (L' := [some (.ref 65), some (.int (nI k)), some (.int (nI j))]) (st' := []) (h' := kv_wd g w) rfl ?_
      refine kx_st 4 (pc' := 48) (L' := [some (.ref 65), some (.int (nI k)), some (.int (nI j))]) (st' := [.int 2, .ref 66, .int (nI j)]) (h' := kv_wd g w) rfl ?_
      refine kx_ia (k := 2) rfl rfl (by decide) rfl (by decide) (by decide) ?_
      refine kx_bi (t := 88) rfl rfl (fun (h49 : g 66 2 ≤ nI j) => ?_) (fun (h49 : ¬ (g 66 2 ≤ nI j)) => ?_)
      · refine kx_st 1 (pc' := 89) (L' := [some (.ref 65), some (.int (nI k)), some (.int (nI j))]) (st' := [.int (nI j)]) (h' := kv_wd g w) rfl ?_
        refine kx_ret (v := some (.int (nI j))) rfl ?_
        subst hkN
        exact hP
      · have h49b : j < m := by have := h49; rw [hm, Int32.le_iff_toInt_le, nI_toInt (by omega), nI_toInt (by omega)] at this; omega
        obtain ⟨x, z, x6, z6, x2, z3, xz⟩ := hV j (by omega)
        refine kx_st 0 (pc' := 52) (L' := [some (.ref 65), some (.int (nI k)), some (.int (nI j))]) (st' := []) (h' := kv_wd g w) rfl ?_
        refine kx_st 7 (pc' := 62) (L' := [some (.ref 65), some (.int (nI k)), some (.int (nI j))]) (st' := [.int ((40 * (nI k)) + (nI j)), .ref 73]) (h' := kv_wd g w) rfl ?_
        refine kx_ia (k := (40 * k + j)) rfl rfl (by decide) (kx_i40 k j) (by omega) (by decide) ?_
        refine kx_st 4 (pc' := 67) (L' := [some (.ref 65), some (.int (nI k)), some (.int (nI j))]) (st' := [.int 2, .int (nI j), .ref 65, .ref 65, .int (g 73 (40 * k + j))]) (h' := kv_wd g w) rfl ?_
        refine kx_call (z := 136) (as := [.ref 65, .int (nI j), .int 2]) (rest := [.ref 65, .int (g 73 (40 * k + j))]) (v := some (.int (g 66 (26 + 9 * j + 2)))) (h1 := kv_wd g w) rfl (ev_its (d := d) j 2 (by omega)) ?_
        refine kx_st 0 (pc' := 70) (L' := [some (.ref 65), some (.int (nI k)), some (.int (nI j))]) (st' := [.int (g 66 (26 + 9 * j + 2)), .ref 65, .int (g 73 (40 * k + j))]) (h' := kv_wd g w) rfl ?_
        refine kx_st 3 (pc' := 73) (L' := [some (.ref 65), some (.int (nI k)), some (.int (nI j))]) (st' := [.int 3, .int (nI j), .ref 65, .int (g 66 (26 + 9 * j + 2)), .ref 65, .int (g 73 (40 * k + j))]) (h' := kv_wd g w) rfl ?_
        refine kx_call (z := 136) (as := [.ref 65, .int (nI j), .int 3]) (rest := [.int (g 66 (26 + 9 * j + 2)), .ref 65, .int (g 73 (40 * k + j))]) (v := some (.int (g 66 (26 + 9 * j + 3)))) (h1 := kv_wd g w) rfl (ev_its (d := d) j 3 (by omega)) ?_
        refine kx_st 0 (pc' := 76) (L' := [some (.ref 65), some (.int (nI k)), some (.int (nI j))]) (st' := [.int (g 66 (26 + 9 * j + 3)), .int (g 66 (26 + 9 * j + 2)), .ref 65, .int (g 73 (40 * k + j))]) (h' := kv_wd g w) rfl ?_
        refine kx_call (z := 146) (as := [.ref 65, .int (g 66 (26 + 9 * j + 2)), .int (g 66 (26 + 9 * j + 3))]) (rest := [.int (g 73 (40 * k + j))]) (v := some (.int (g 66 (8 + x) + g 66 (14 + z)))) (h1 := kv_wd g w) rfl (by rw [x2, z3]; exact ev_crossed (d := d) x z x6 z6) ?_
        refine kx_st 0 (pc' := 79) (L' := [some (.ref 65), some (.int (nI k)), some (.int (nI j))]) (st' := [.int (g 66 (8 + x) + g 66 (14 + z)), .int (g 73 (40 * k + j))]) (h' := kv_wd g w) rfl ?_
        refine kx_bi (t := 88) rfl rfl (fun (h79 : ¬ g 73 (40 * k + j) = g 66 (8 + x) + g 66 (14 + z)) => ?_) (fun (h79 : ¬ (¬ g 73 (40 * k + j) = g 66 (8 + x) + g 66 (14 + z))) => ?_)
        · refine kx_st 1 (pc' := 89) (L' := [some (.ref 65), some (.int (nI k)), some (.int (nI j))]) (st' := [.int (nI j)]) (h' := kv_wd g w) rfl ?_
          refine kx_ret (v := some (.int (nI j))) rfl ?_
          subst hkN
          exact hP
        · exact absurd (Classical.not_not.mp h79) (by rw [xz]; subst hkN; exact hx.resolve_left (fun hx => by omega))
  | succ nz ih =>
    intro j hkk
    have hmn := Nat.min_le_left n m
    have hmm := Nat.min_le_right n m
    refine kx_st 4 (pc' := 38) (L' := [some (.ref 65), some (.int (nI k)), some (.int (nI j))]) (st' := [.int (nI k), .ref 72, .int (nI j)]) (h' := kv_wd g w) rfl ?_
    refine kx_ia (k := k) rfl rfl (by decide) rfl (by omega) (by decide) ?_
    refine kx_bi (t := 88) rfl rfl (fun (h39 : g 72 k ≤ nI j) => ?_) (fun (h39 : ¬ (g 72 k ≤ nI j)) => ?_)
    · exact absurd h39 (by rw [hn]; exact nI_ge (a := j) (b := n) (by omega) (by omega))
    · have h39b : j < n := by have := h39; rw [hn, Int32.le_iff_toInt_le, nI_toInt (by omega), nI_toInt (by omega)] at this; omega
      refine kx_st 0 (pc' := 42) (L' := [some (.ref 65), some (.int (nI k)), some (.int (nI j))]) (st' := []) (h' := kv_wd g w) rfl ?_
      refine kx_st 4 (pc' := 48) (L' := [some (.ref 65), some (.int (nI k)), some (.int (nI j))]) (st' := [.int 2, .ref 66, .int (nI j)]) (h' := kv_wd g w) rfl ?_
      refine kx_ia (k := 2) rfl rfl (by decide) rfl (by decide) (by decide) ?_
      refine kx_bi (t := 88) rfl rfl (fun (h49 : g 66 2 ≤ nI j) => ?_) (fun (h49 : ¬ (g 66 2 ≤ nI j)) => ?_)
      · exact absurd h49 (by rw [hm]; exact nI_ge (a := j) (b := m) (by omega) (by omega))
      · have h49b : j < m := by have := h49; rw [hm, Int32.le_iff_toInt_le, nI_toInt (by omega), nI_toInt (by omega)] at this; omega
        obtain ⟨x, z, x6, z6, x2, z3, xz⟩ := hV j (by omega)
        refine kx_st 0 (pc' := 52) (L' := [some (.ref 65), some (.int (nI k)), some (.int (nI j))]) (st' := []) (h' := kv_wd g w) rfl ?_
        refine kx_st 7 (pc' := 62) (L' := [some (.ref 65), some (.int (nI k)), some (.int (nI j))]) (st' := [.int ((40 * (nI k)) + (nI j)), .ref 73]) (h' := kv_wd g w) rfl ?_
        refine kx_ia (k := (40 * k + j)) rfl rfl (by decide) (kx_i40 k j) (by omega) (by decide) ?_
        refine kx_st 4 (pc' := 67) (L' := [some (.ref 65), some (.int (nI k)), some (.int (nI j))]) (st' := [.int 2, .int (nI j), .ref 65, .ref 65, .int (g 73 (40 * k + j))]) (h' := kv_wd g w) rfl ?_
        refine kx_call (z := 136) (as := [.ref 65, .int (nI j), .int 2]) (rest := [.ref 65, .int (g 73 (40 * k + j))]) (v := some (.int (g 66 (26 + 9 * j + 2)))) (h1 := kv_wd g w) rfl (ev_its (d := d) j 2 (by omega)) ?_
        refine kx_st 0 (pc' := 70) (L' := [some (.ref 65), some (.int (nI k)), some (.int (nI j))]) (st' := [.int (g 66 (26 + 9 * j + 2)), .ref 65, .int (g 73 (40 * k + j))]) (h' := kv_wd g w) rfl ?_
        refine kx_st 3 (pc' := 73) (L' := [some (.ref 65), some (.int (nI k)), some (.int (nI j))]) (st' := [.int 3, .int (nI j), .ref 65, .int (g 66 (26 + 9 * j + 2)), .ref 65, .int (g 73 (40 * k + j))]) (h' := kv_wd g w) rfl ?_
        refine kx_call (z := 136) (as := [.ref 65, .int (nI j), .int 3]) (rest := [.int (g 66 (26 + 9 * j + 2)), .ref 65, .int (g 73 (40 * k + j))]) (v := some (.int (g 66 (26 + 9 * j + 3)))) (h1 := kv_wd g w) rfl (ev_its (d := d) j 3 (by omega)) ?_
        refine kx_st 0 (pc' := 76) (L' := [some (.ref 65), some (.int (nI k)), some (.int (nI j))]) (st' := [.int (g 66 (26 + 9 * j + 3)), .int (g 66 (26 + 9 * j + 2)), .ref 65, .int (g 73 (40 * k + j))]) (h' := kv_wd g w) rfl ?_
        refine kx_call (z := 146) (as := [.ref 65, .int (g 66 (26 + 9 * j + 2)), .int (g 66 (26 + 9 * j + 3))]) (rest := [.int (g 73 (40 * k + j))]) (v := some (.int (g 66 (8 + x) + g 66 (14 + z)))) (h1 := kv_wd g w) rfl (by rw [x2, z3]; exact ev_crossed (d := d) x z x6 z6) ?_
        refine kx_st 0 (pc' := 79) (L' := [some (.ref 65), some (.int (nI k)), some (.int (nI j))]) (st' := [.int (g 66 (8 + x) + g 66 (14 + z)), .int (g 73 (40 * k + j))]) (h' := kv_wd g w) rfl ?_
        refine kx_bi (t := 88) rfl rfl (fun (h79 : ¬ g 73 (40 * k + j) = g 66 (8 + x) + g 66 (14 + z)) => ?_) (fun (h79 : ¬ (¬ g 73 (40 * k + j) = g 66 (8 + x) + g 66 (14 + z))) => ?_)
        · exact absurd (by rw [xz]; exact hp j (by omega)) h79
        · refine kx_st 0 (pc' := 82) (L' := [some (.ref 65), some (.int (nI k)), some (.int (nI j))]) (st' := []) (h' := kv_wd g w) rfl ?_
          refine kx_st 2 (pc' := 32) (L' := [some (.ref 65), some (.int (nI k)), some (.int ((nI j) + 1))]) (st' := []) (h' := kv_wd g w) rfl ?_
          rw [← nI_succ]
          exact ih (j + 1) (by omega)
def kx_lo (g : kv_S) (k j : Nat) : kv_S := fun b => if 14 ≤ b ∧ b < 14 + j then upd (g b) 8 (g (57 + 2 * k) (b - 14)) else g b
theorem kx_lo_0 (g : kv_S) (k : Nat) : kx_lo g k 0 = g := by funext b; unfold kx_lo; rw [if_neg (by omega)]
theorem kx_lo_r {g : kv_S} {k j b : Nat} (hj : j ≤ 8) (hb : b < 14 ∨ 22 ≤ b) : kx_lo g k j b = g b := by unfold kx_lo; rw [if_neg (by omega)]
theorem kx_lo_s {g : kv_S} {k j : Nat} : kv_up (kx_lo g k j) (14 + j) 8 (g (57 + 2 * k) j) = kx_lo g k (j + 1) := by
  funext b
  unfold kv_up
  by_cases h : b = 14 + j
  · subst h
    rw [if_pos rfl]
    unfold kx_lo
    rw [if_neg (by omega), if_pos (by omega), show 14 + j - 14 = j by omega]
  · rw [if_neg h]
    unfold kx_lo
    have e : (14 ≤ b ∧ b < 14 + j) ↔ (14 ≤ b ∧ b < 14 + (j + 1)) := by omega
    simp only [e]
def kx_lm (r f : Nat → Int32) (j : Nat) : Nat → Int32 := fun x => if 26 ≤ x ∧ (x - 26) % 9 = 8 ∧ (x - 26) / 9 < j then f ((x - 26) / 9) else r x
theorem kx_lm_0 (r f : Nat → Int32) : kx_lm r f 0 = r := by funext b; unfold kx_lm; rw [if_neg (by omega)]
theorem kx_lm_s {r f : Nat → Int32} {j : Nat} : upd (kx_lm r f j) (26 + 9 * j + 8) (f j) = kx_lm r f (j + 1) := by
  funext x
  unfold upd
  by_cases h : x = 26 + 9 * j + 8
  · subst h
    rw [if_pos rfl]
    unfold kx_lm
    rw [if_pos (by omega), show (26 + 9 * j + 8 - 26) / 9 = j by omega]
  · rw [if_neg h]
    unfold kx_lm
    have e : (26 ≤ x ∧ (x - 26) % 9 = 8 ∧ (x - 26) / 9 < j) ↔ (26 ≤ x ∧ (x - 26) % 9 = 8 ∧ (x - 26) / 9 < j + 1) := by omega
    simp only [e]
theorem kx_lm_g {g : kv_S} {f : Nat → Int32} {j : Nat} : kv_up (kv_uf g 66 (kx_lm (g 66) f j)) 66 (26 + 9 * j + 8) (f j) = kv_uf g 66 (kx_lm (g 66) f (j + 1)) := by
  rw [kv_up_uf, kv_uf_self, kv_uf_uf, kx_lm_s]
set_option maxRecDepth 100000 in
theorem lp_xloads {E : kv_V} {d : Nat} {g : kv_S} {w : kv_W} (hq : kv_qok w) (k : Nat) (hk : k < 4) (n m e : Nat) (n40 : n ≤ 40) (m8 : m ≤ 8) (he : e ≤ min n m) (hp : ∀ j, j < e → 0 ≤ g (57 + 2 * k) j ∧ g (57 + 2 * k) j ≤ 99) (hx : e = min n m ∨ ¬ (0 ≤ g (57 + 2 * k) e ∧ g (57 + 2 * k) e ≤ 99)) {P : Option Value → kv_H → Prop} (hP : P (some (.int (nI e))) (kv_wd (kx_lo g k e) w)) : ∀ nz j : Nat, j + nz = e → kx_V E (d + 1) 115 47 [some (.ref 0), some (.int (nI k)), some (.ref (56 + 2 * k)), some (.int (nI (min n m))), some (.int (nI j))] [] (kv_wd (kx_lo g k j) w) P := by
  intro nz
  induction nz with
  | zero =>
    intro j hkk
    have hkN : j = e := by omega
    have hmn := Nat.min_le_left n m
    have hmm := Nat.min_le_right n m
    refine kx_st 2 (pc' := 50) (L' := [some (.ref 0), some (.int (nI k)), some (.ref (56 + 2 * k)), some (.int (nI (min n m))), some (.int (nI j))]) (st' := [.int (nI (min n m)), .int (nI j)]) (h' := kv_wd (kx_lo g k j) w) rfl ?_
    refine kx_bi (t := 94) rfl rfl (fun (h50 : nI (min n m) ≤ nI j) => ?_) (fun (h50 : ¬ (nI (min n m) ≤ nI j)) => ?_)
    · refine kx_st 1 (pc' := 96) (L' := [some (.ref 0), some (.int (nI k)), some (.ref (56 + 2 * k)), some (.int (nI (min n m))), some (.int (nI j))]) (st' := [.int (nI j)]) (h' := kv_wd (kx_lo g k j) w) rfl ?_
      refine kx_ret (v := some (.int (nI j))) rfl ?_
      subst hkN
      exact hP
    · have h50b : j < min n m := by have := h50; rw [Int32.le_iff_toInt_le, nI_toInt (by omega), nI_toInt (by omega)] at this; omega
      refine kx_st 0 (pc' := 53) (L' := [some (.ref 0), some (.int (nI k)), some (.ref (56 + 2 * k)), some (.int (nI (min n m))), some (.int (nI j))]) (st' := []) (h' := kv_wd (kx_lo g k j) w) rfl ?_
      refine kx_st 1 (pc' := 54) (L' := [some (.ref 0), some (.int (nI k)), some (.ref (56 + 2 * k)), some (.int (nI (min n m))), some (.int (nI j))]) (st' := [.ref (56 + 2 * k)]) (h' := kv_wd (kx_lo g k j) w) rfl ?_
      refine kx_gf (i := 263) (k := 2) (v := .ref (57 + 2 * k)) rfl rfl (by have := (kv_st_h hk).1; omega) ((kv_st_h hk).2.1 _ _) rfl ?_
      refine kx_st 1 (pc' := 59) (L' := [some (.ref 0), some (.int (nI k)), some (.ref (56 + 2 * k)), some (.int (nI (min n m))), some (.int (nI j))]) (st' := [.int (nI j), .ref (57 + 2 * k)]) (h' := kv_wd (kx_lo g k j) w) rfl ?_
      refine kx_ia (k := j) rfl (kv_st_h hk).2.2 (kv_st_h hk).1 rfl (by omega) (by decide) ?_
      refine kx_st 1 (pc' := 62) (L' := [some (.ref 0), some (.int (nI k)), some (.ref (56 + 2 * k)), some (.int (nI (min n m))), some (.int (nI j))]) (st' := [.int 99, .int ((kx_lo g k j) (57 + 2 * k) j)]) (h' := kv_wd (kx_lo g k j) w) rfl ?_
      refine kx_call (z := 124) (as := [.int ((kx_lo g k j) (57 + 2 * k) j), .int 99]) (rest := []) (v := some (.int (kx_b (0 ≤ (kx_lo g k j) (57 + 2 * k) j ∧ (kx_lo g k j) (57 + 2 * k) j ≤ 99)))) (h1 := kv_wd (kx_lo g k j) w) rfl (ev_within (d := d) ((kx_lo g k j) (57 + 2 * k) j) 99) ?_
      refine kx_st 0 (pc' := 65) (L' := [some (.ref 0), some (.int (nI k)), some (.ref (56 + 2 * k)), some (.int (nI (min n m))), some (.int (nI j))]) (st' := [.int (kx_b (0 ≤ (kx_lo g k j) (57 + 2 * k) j ∧ (kx_lo g k j) (57 + 2 * k) j ≤ 99))]) (h' := kv_wd (kx_lo g k j) w) rfl ?_
      refine kx_be (t := 94) rfl rfl (fun (h65 : ¬ (0 ≤ (kx_lo g k j) (57 + 2 * k) j ∧ (kx_lo g k j) (57 + 2 * k) j ≤ 99)) => ?_) (fun (h65 : (0 ≤ (kx_lo g k j) (57 + 2 * k) j ∧ (kx_lo g k j) (57 + 2 * k) j ≤ 99)) => ?_)
      · refine kx_st 1 (pc' := 96) (L' := [some (.ref 0), some (.int (nI k)), some (.ref (56 + 2 * k)), some (.int (nI (min n m))), some (.int (nI j))]) (st' := [.int (nI j)]) (h' := kv_wd (kx_lo g k j) w) rfl ?_
        refine kx_ret (v := some (.int (nI j))) rfl ?_
        subst hkN
        exact hP
      · exact absurd (show 0 ≤ g (57 + 2 * k) j ∧ g (57 + 2 * k) j ≤ 99 by rw [kx_lo_r (g := g) (k := k) (j := j) (b := 57 + 2 * k) (by omega) (by omega)] at h65; exact h65) (by subst hkN; exact hx.resolve_left (fun hx => by omega))
  | succ nz ih =>
    intro j hkk
    have hmn := Nat.min_le_left n m
    have hmm := Nat.min_le_right n m
    refine kx_st 2 (pc' := 50) (L' := [some (.ref 0), some (.int (nI k)), some (.ref (56 + 2 * k)), some (.int (nI (min n m))), some (.int (nI j))]) (st' := [.int (nI (min n m)), .int (nI j)]) (h' := kv_wd (kx_lo g k j) w) rfl ?_
    refine kx_bi (t := 94) rfl rfl (fun (h50 : nI (min n m) ≤ nI j) => ?_) (fun (h50 : ¬ (nI (min n m) ≤ nI j)) => ?_)
    · exact absurd h50 (nI_ge (a := j) (b := min n m) (by omega) (by omega))
    · refine kx_st 0 (pc' := 53) (L' := [some (.ref 0), some (.int (nI k)), some (.ref (56 + 2 * k)), some (.int (nI (min n m))), some (.int (nI j))]) (st' := []) (h' := kv_wd (kx_lo g k j) w) rfl ?_
      refine kx_st 1 (pc' := 54) (L' := [some (.ref 0), some (.int (nI k)), some (.ref (56 + 2 * k)), some (.int (nI (min n m))), some (.int (nI j))]) (st' := [.ref (56 + 2 * k)]) (h' := kv_wd (kx_lo g k j) w) rfl ?_
      refine kx_gf (i := 263) (k := 2) (v := .ref (57 + 2 * k)) rfl rfl (by have := (kv_st_h hk).1; omega) ((kv_st_h hk).2.1 _ _) rfl ?_
      refine kx_st 1 (pc' := 59) (L' := [some (.ref 0), some (.int (nI k)), some (.ref (56 + 2 * k)), some (.int (nI (min n m))), some (.int (nI j))]) (st' := [.int (nI j), .ref (57 + 2 * k)]) (h' := kv_wd (kx_lo g k j) w) rfl ?_
      refine kx_ia (k := j) rfl (kv_st_h hk).2.2 (kv_st_h hk).1 rfl (by omega) (by decide) ?_
      refine kx_st 1 (pc' := 62) (L' := [some (.ref 0), some (.int (nI k)), some (.ref (56 + 2 * k)), some (.int (nI (min n m))), some (.int (nI j))]) (st' := [.int 99, .int ((kx_lo g k j) (57 + 2 * k) j)]) (h' := kv_wd (kx_lo g k j) w) rfl ?_
      refine kx_call (z := 124) (as := [.int ((kx_lo g k j) (57 + 2 * k) j), .int 99]) (rest := []) (v := some (.int (kx_b (0 ≤ (kx_lo g k j) (57 + 2 * k) j ∧ (kx_lo g k j) (57 + 2 * k) j ≤ 99)))) (h1 := kv_wd (kx_lo g k j) w) rfl (ev_within (d := d) ((kx_lo g k j) (57 + 2 * k) j) 99) ?_
      refine kx_st 0 (pc' := 65) (L' := [some (.ref 0), some (.int (nI k)), some (.ref (56 + 2 * k)), some (.int (nI (min n m))), some (.int (nI j))]) (st' := [.int (kx_b (0 ≤ (kx_lo g k j) (57 + 2 * k) j ∧ (kx_lo g k j) (57 + 2 * k) j ≤ 99))]) (h' := kv_wd (kx_lo g k j) w) rfl ?_
      refine kx_be (t := 94) rfl rfl (fun (h65 : ¬ (0 ≤ (kx_lo g k j) (57 + 2 * k) j ∧ (kx_lo g k j) (57 + 2 * k) j ≤ 99)) => ?_) (fun (h65 : (0 ≤ (kx_lo g k j) (57 + 2 * k) j ∧ (kx_lo g k j) (57 + 2 * k) j ≤ 99)) => ?_)
      · exact absurd (by rw [kx_lo_r (g := g) (k := k) (j := j) (b := 57 + 2 * k) (by omega) (by omega)]; exact hp j (by omega)) h65
      · refine kx_st 0 (pc' := 68) (L' := [some (.ref 0), some (.int (nI k)), some (.ref (56 + 2 * k)), some (.int (nI (min n m))), some (.int (nI j))]) (st' := []) (h' := kv_wd (kx_lo g k j) w) rfl ?_
        refine kx_st 4 (pc' := 77) (L' := [some (.ref 0), some (.int (nI k)), some (.ref (56 + 2 * k)), some (.int (nI (min n m))), some (.int (nI j))]) (st' := [.int (nI j), .ref 5]) (h' := kv_wd (kx_lo g k j) w) rfl ?_
        refine kx_aa (t := 2) (k := j) (b := (14 + j)) rfl rfl (by decide) (by decide) rfl (by omega) (by decide) (hq.1 _ (by omega)) ?_
        refine kx_st 1 (pc' := 79) (L' := [some (.ref 0), some (.int (nI k)), some (.ref (56 + 2 * k)), some (.int (nI (min n m))), some (.int (nI j))]) (st' := [.ref (56 + 2 * k), .ref (14 + j)]) (h' := kv_wd (kx_lo g k j) w) rfl ?_
        refine kx_gf (i := 263) (k := 2) (v := .ref (57 + 2 * k)) rfl rfl (by have := (kv_st_h hk).1; omega) ((kv_st_h hk).2.1 _ _) rfl ?_
        refine kx_st 1 (pc' := 84) (L' := [some (.ref 0), some (.int (nI k)), some (.ref (56 + 2 * k)), some (.int (nI (min n m))), some (.int (nI j))]) (st' := [.int (nI j), .ref (57 + 2 * k), .ref (14 + j)]) (h' := kv_wd (kx_lo g k j) w) rfl ?_
        refine kx_ia (k := j) rfl (kv_st_h hk).2.2 (kv_st_h hk).1 rfl (by omega) (by decide) ?_
        refine kx_pf (i := 298) (k := 8) (x := ((kx_lo g k j) (57 + 2 * k) j)) rfl rfl (kv_kn_h (by omega : j < 8)).1 ((kv_kn_h (by omega : j < 8)).2 _ _) (Nat.le_of_ble_eq_true rfl) (by rw [(kv_kn_h (by omega : j < 8)).2]; rfl) rfl rfl ?_
        refine kx_st 2 (pc' := 47) (L' := [some (.ref 0), some (.int (nI k)), some (.ref (56 + 2 * k)), some (.int (nI (min n m))), some (.int ((nI j) + 1))]) (st' := []) (h' := kv_wd (kv_up (kx_lo g k j) (14 + j) 8 ((kx_lo g k j) (57 + 2 * k) j)) w) rfl ?_
        rw [kx_lo_r (g := g) (k := k) (j := j) (b := 57 + 2 * k) (by omega) (by omega), kx_lo_s, ← nI_succ]
        exact ih (j + 1) (by omega)
set_option maxRecDepth 100000 in
theorem lp_mloads {E : kv_V} {d : Nat} {g : kv_S} {w : kv_W} (k : Nat) (hk : k < 4) (n m e : Nat) (hn : g 72 k = nI n) (n40 : n ≤ 40) (d2 : g 66 2 = nI m) (a4 : m ≤ 8) (he : e ≤ min n m) (hp : ∀ j, j < e → 0 ≤ g 73 (40 * k + j) ∧ g 73 (40 * k + j) ≤ 99) (hx : e = min n m ∨ ¬ (0 ≤ g 73 (40 * k + e) ∧ g 73 (40 * k + e) ≤ 99)) {P : Option Value → kv_H → Prop} (hP : P (some (.int (nI e))) (kv_wd (kv_uf g 66 (kx_lm (g 66) (fun j => g 73 (40 * k + j)) e)) w)) : ∀ nz j : Nat, j + nz = e → kx_V E (d + 2) 214 32 [some (.ref 65), some (.int (nI k)), some (.int (nI j))] [] (kv_wd (kv_uf g 66 (kx_lm (g 66) (fun j => g 73 (40 * k + j)) j)) w) P := by
  intro nz
  induction nz with
  | zero =>
    intro j hkk
    have hkN : j = e := by omega
    have hmn := Nat.min_le_left n m
    have hmm := Nat.min_le_right n m
    refine kx_st 4 (pc' := 38) (L' := [some (.ref 65), some (.int (nI k)), some (.int (nI j))]) (st' := [.int (nI k), .ref 72, .int (nI j)]) (h' := kv_wd (kv_uf g 66 (kx_lm (g 66) (fun j => g 73 (40 * k + j)) j)) w) rfl ?_
    refine kx_ia (k := k) rfl rfl (by decide) rfl (by omega) (by decide) ?_
    refine kx_bi (t := 94) rfl rfl (fun (h39 : (kv_uf g 66 (kx_lm (g 66) (fun j => g 73 (40 * k + j)) j)) 72 k ≤ nI j) => ?_) (fun (h39 : ¬ ((kv_uf g 66 (kx_lm (g 66) (fun j => g 73 (40 * k + j)) j)) 72 k ≤ nI j)) => ?_)
    · refine kx_st 1 (pc' := 95) (L' := [some (.ref 65), some (.int (nI k)), some (.int (nI j))]) (st' := [.int (nI j)]) (h' := kv_wd (kv_uf g 66 (kx_lm (g 66) (fun j => g 73 (40 * k + j)) j)) w) rfl ?_
      refine kx_ret (v := some (.int (nI j))) rfl ?_
      subst hkN
      exact hP
    · have h39 : ¬ g 72 k ≤ nI j := h39
      have h39b : j < n := by have := h39; rw [hn, Int32.le_iff_toInt_le, nI_toInt (by omega), nI_toInt (by omega)] at this; omega
      refine kx_st 0 (pc' := 42) (L' := [some (.ref 65), some (.int (nI k)), some (.int (nI j))]) (st' := []) (h' := kv_wd (kv_uf g 66 (kx_lm (g 66) (fun j => g 73 (40 * k + j)) j)) w) rfl ?_
      refine kx_st 2 (pc' := 44) (L' := [some (.ref 65), some (.int (nI k)), some (.int (nI j))]) (st' := [.int (nI j), .ref 65]) (h' := kv_wd (kv_uf g 66 (kx_lm (g 66) (fun j => g 73 (40 * k + j)) j)) w) rfl ?_
      refine kx_call (z := 139) (as := [.ref 65, .int (nI j)]) (rest := []) (v := some (.int (kx_b (0 ≤ nI j ∧ nI j < nI m)))) (h1 := kv_wd (kv_uf g 66 (kx_lm (g 66) (fun j => g 73 (40 * k + j)) j)) w) rfl (ev_mKnotS (d := d) (g := kv_uf g 66 (kx_lm (g 66) (fun j => g 73 (40 * k + j)) j)) (s := m) d2 a4 (nI j)) ?_
      refine kx_st 0 (pc' := 47) (L' := [some (.ref 65), some (.int (nI k)), some (.int (nI j))]) (st' := [.int (kx_b (0 ≤ nI j ∧ nI j < nI m))]) (h' := kv_wd (kv_uf g 66 (kx_lm (g 66) (fun j => g 73 (40 * k + j)) j)) w) rfl ?_
      refine kx_be (t := 94) rfl rfl (fun (h47 : ¬ (0 ≤ nI j ∧ nI j < nI m)) => ?_) (fun (h47 : (0 ≤ nI j ∧ nI j < nI m)) => ?_)
      · refine kx_st 1 (pc' := 95) (L' := [some (.ref 65), some (.int (nI k)), some (.int (nI j))]) (st' := [.int (nI j)]) (h' := kv_wd (kv_uf g 66 (kx_lm (g 66) (fun j => g 73 (40 * k + j)) j)) w) rfl ?_
        refine kx_ret (v := some (.int (nI j))) rfl ?_
        subst hkN
        exact hP
      · have h47b : j < m := by have := h47.2; rw [Int32.lt_iff_toInt_lt, nI_toInt (by omega), nI_toInt (by omega)] at this; omega
        refine kx_st 0 (pc' := 50) (L' := [some (.ref 65), some (.int (nI k)), some (.int (nI j))]) (st' := []) (h' := kv_wd (kv_uf g 66 (kx_lm (g 66) (fun j => g 73 (40 * k + j)) j)) w) rfl ?_
        refine kx_st 7 (pc' := 60) (L' := [some (.ref 65), some (.int (nI k)), some (.int (nI j))]) (st' := [.int ((40 * (nI k)) + (nI j)), .ref 73]) (h' := kv_wd (kv_uf g 66 (kx_lm (g 66) (fun j => g 73 (40 * k + j)) j)) w) rfl ?_
        refine kx_ia (k := (40 * k + j)) rfl rfl (by decide) (kx_i40 k j) (by omega) (by decide) ?_
        refine kx_st 2 (pc' := 64) (L' := [some (.ref 65), some (.int (nI k)), some (.int (nI j))]) (st' := [.int 99, .int 0, .int ((kv_uf g 66 (kx_lm (g 66) (fun j => g 73 (40 * k + j)) j)) 73 (40 * k + j))]) (h' := kv_wd (kv_uf g 66 (kx_lm (g 66) (fun j => g 73 (40 * k + j)) j)) w) rfl ?_
        refine kx_call (z := 130) (as := [.int ((kv_uf g 66 (kx_lm (g 66) (fun j => g 73 (40 * k + j)) j)) 73 (40 * k + j)), .int 0, .int 99]) (rest := []) (v := some (.int (kx_b (0 ≤ (kv_uf g 66 (kx_lm (g 66) (fun j => g 73 (40 * k + j)) j)) 73 (40 * k + j) ∧ (kv_uf g 66 (kx_lm (g 66) (fun j => g 73 (40 * k + j)) j)) 73 (40 * k + j) ≤ 99)))) (h1 := kv_wd (kv_uf g 66 (kx_lm (g 66) (fun j => g 73 (40 * k + j)) j)) w) rfl (ev_in (d := d + 1) ((kv_uf g 66 (kx_lm (g 66) (fun j => g 73 (40 * k + j)) j)) 73 (40 * k + j)) 0 99) ?_
        refine kx_st 0 (pc' := 67) (L' := [some (.ref 65), some (.int (nI k)), some (.int (nI j))]) (st' := [.int (kx_b (0 ≤ (kv_uf g 66 (kx_lm (g 66) (fun j => g 73 (40 * k + j)) j)) 73 (40 * k + j) ∧ (kv_uf g 66 (kx_lm (g 66) (fun j => g 73 (40 * k + j)) j)) 73 (40 * k + j) ≤ 99))]) (h' := kv_wd (kv_uf g 66 (kx_lm (g 66) (fun j => g 73 (40 * k + j)) j)) w) rfl ?_
        refine kx_be (t := 94) rfl rfl (fun (h67 : ¬ (0 ≤ (kv_uf g 66 (kx_lm (g 66) (fun j => g 73 (40 * k + j)) j)) 73 (40 * k + j) ∧ (kv_uf g 66 (kx_lm (g 66) (fun j => g 73 (40 * k + j)) j)) 73 (40 * k + j) ≤ 99)) => ?_) (fun (h67 : (0 ≤ (kv_uf g 66 (kx_lm (g 66) (fun j => g 73 (40 * k + j)) j)) 73 (40 * k + j) ∧ (kv_uf g 66 (kx_lm (g 66) (fun j => g 73 (40 * k + j)) j)) 73 (40 * k + j) ≤ 99)) => ?_)
        · refine kx_st 1 (pc' := 95) (L' := [some (.ref 65), some (.int (nI k)), some (.int (nI j))]) (st' := [.int (nI j)]) (h' := kv_wd (kv_uf g 66 (kx_lm (g 66) (fun j => g 73 (40 * k + j)) j)) w) rfl ?_
          refine kx_ret (v := some (.int (nI j))) rfl ?_
          subst hkN
          exact hP
        · exact absurd h67 (by subst hkN; exact hx.resolve_left (fun hx => by omega))
  | succ nz ih =>
    intro j hkk
    have hmn := Nat.min_le_left n m
    have hmm := Nat.min_le_right n m
    refine kx_st 4 (pc' := 38) (L' := [some (.ref 65), some (.int (nI k)), some (.int (nI j))]) (st' := [.int (nI k), .ref 72, .int (nI j)]) (h' := kv_wd (kv_uf g 66 (kx_lm (g 66) (fun j => g 73 (40 * k + j)) j)) w) rfl ?_
    refine kx_ia (k := k) rfl rfl (by decide) rfl (by omega) (by decide) ?_
    refine kx_bi (t := 94) rfl rfl (fun (h39 : (kv_uf g 66 (kx_lm (g 66) (fun j => g 73 (40 * k + j)) j)) 72 k ≤ nI j) => ?_) (fun (h39 : ¬ ((kv_uf g 66 (kx_lm (g 66) (fun j => g 73 (40 * k + j)) j)) 72 k ≤ nI j)) => ?_)
    · exact absurd (show g 72 k ≤ nI j from h39) (by rw [hn]; exact nI_ge (a := j) (b := n) (by omega) (by omega))
    · have h39 : ¬ g 72 k ≤ nI j := h39
      have h39b : j < n := by have := h39; rw [hn, Int32.le_iff_toInt_le, nI_toInt (by omega), nI_toInt (by omega)] at this; omega
      refine kx_st 0 (pc' := 42) (L' := [some (.ref 65), some (.int (nI k)), some (.int (nI j))]) (st' := []) (h' := kv_wd (kv_uf g 66 (kx_lm (g 66) (fun j => g 73 (40 * k + j)) j)) w) rfl ?_
      refine kx_st 2 (pc' := 44) (L' := [some (.ref 65), some (.int (nI k)), some (.int (nI j))]) (st' := [.int (nI j), .ref 65]) (h' := kv_wd (kv_uf g 66 (kx_lm (g 66) (fun j => g 73 (40 * k + j)) j)) w) rfl ?_
      refine kx_call (z := 139) (as := [.ref 65, .int (nI j)]) (rest := []) (v := some (.int (kx_b (0 ≤ nI j ∧ nI j < nI m)))) (h1 := kv_wd (kv_uf g 66 (kx_lm (g 66) (fun j => g 73 (40 * k + j)) j)) w) rfl (ev_mKnotS (d := d) (g := kv_uf g 66 (kx_lm (g 66) (fun j => g 73 (40 * k + j)) j)) (s := m) d2 a4 (nI j)) ?_
      refine kx_st 0 (pc' := 47) (L' := [some (.ref 65), some (.int (nI k)), some (.int (nI j))]) (st' := [.int (kx_b (0 ≤ nI j ∧ nI j < nI m))]) (h' := kv_wd (kv_uf g 66 (kx_lm (g 66) (fun j => g 73 (40 * k + j)) j)) w) rfl ?_
      refine kx_be (t := 94) rfl rfl (fun (h47 : ¬ (0 ≤ nI j ∧ nI j < nI m)) => ?_) (fun (h47 : (0 ≤ nI j ∧ nI j < nI m)) => ?_)
      · exact absurd ⟨nI_le (a := 0) (b := j) (by omega) (by omega), nI_lt (by omega) (by omega)⟩ h47
      · have h47b : j < m := by have := h47.2; rw [Int32.lt_iff_toInt_lt, nI_toInt (by omega), nI_toInt (by omega)] at this; omega
        refine kx_st 0 (pc' := 50) (L' := [some (.ref 65), some (.int (nI k)), some (.int (nI j))]) (st' := []) (h' := kv_wd (kv_uf g 66 (kx_lm (g 66) (fun j => g 73 (40 * k + j)) j)) w) rfl ?_
        refine kx_st 7 (pc' := 60) (L' := [some (.ref 65), some (.int (nI k)), some (.int (nI j))]) (st' := [.int ((40 * (nI k)) + (nI j)), .ref 73]) (h' := kv_wd (kv_uf g 66 (kx_lm (g 66) (fun j => g 73 (40 * k + j)) j)) w) rfl ?_
        refine kx_ia (k := (40 * k + j)) rfl rfl (by decide) (kx_i40 k j) (by omega) (by decide) ?_
        refine kx_st 2 (pc' := 64) (L' := [some (.ref 65), some (.int (nI k)), some (.int (nI j))]) (st' := [.int 99, .int 0, .int ((kv_uf g 66 (kx_lm (g 66) (fun j => g 73 (40 * k + j)) j)) 73 (40 * k + j))]) (h' := kv_wd (kv_uf g 66 (kx_lm (g 66) (fun j => g 73 (40 * k + j)) j)) w) rfl ?_
        refine kx_call (z := 130) (as := [.int ((kv_uf g 66 (kx_lm (g 66) (fun j => g 73 (40 * k + j)) j)) 73 (40 * k + j)), .int 0, .int 99]) (rest := []) (v := some (.int (kx_b (0 ≤ (kv_uf g 66 (kx_lm (g 66) (fun j => g 73 (40 * k + j)) j)) 73 (40 * k + j) ∧ (kv_uf g 66 (kx_lm (g 66) (fun j => g 73 (40 * k + j)) j)) 73 (40 * k + j) ≤ 99)))) (h1 := kv_wd (kv_uf g 66 (kx_lm (g 66) (fun j => g 73 (40 * k + j)) j)) w) rfl (ev_in (d := d + 1) ((kv_uf g 66 (kx_lm (g 66) (fun j => g 73 (40 * k + j)) j)) 73 (40 * k + j)) 0 99) ?_
        refine kx_st 0 (pc' := 67) (L' := [some (.ref 65), some (.int (nI k)), some (.int (nI j))]) (st' := [.int (kx_b (0 ≤ (kv_uf g 66 (kx_lm (g 66) (fun j => g 73 (40 * k + j)) j)) 73 (40 * k + j) ∧ (kv_uf g 66 (kx_lm (g 66) (fun j => g 73 (40 * k + j)) j)) 73 (40 * k + j) ≤ 99))]) (h' := kv_wd (kv_uf g 66 (kx_lm (g 66) (fun j => g 73 (40 * k + j)) j)) w) rfl ?_
        refine kx_be (t := 94) rfl rfl (fun (h67 : ¬ (0 ≤ (kv_uf g 66 (kx_lm (g 66) (fun j => g 73 (40 * k + j)) j)) 73 (40 * k + j) ∧ (kv_uf g 66 (kx_lm (g 66) (fun j => g 73 (40 * k + j)) j)) 73 (40 * k + j) ≤ 99)) => ?_) (fun (h67 : (0 ≤ (kv_uf g 66 (kx_lm (g 66) (fun j => g 73 (40 * k + j)) j)) 73 (40 * k + j) ∧ (kv_uf g 66 (kx_lm (g 66) (fun j => g 73 (40 * k + j)) j)) 73 (40 * k + j) ≤ 99)) => ?_)
        · exact absurd (hp j (by omega)) h67
        · refine kx_st 0 (pc' := 70) (L' := [some (.ref 65), some (.int (nI k)), some (.int (nI j))]) (st' := []) (h' := kv_wd (kv_uf g 66 (kx_lm (g 66) (fun j => g 73 (40 * k + j)) j)) w) rfl ?_
          refine kx_st 10 (pc' := 84) (L' := [some (.ref 65), some (.int (nI k)), some (.int (nI j))]) (st' := [.int ((40 * (nI k)) + (nI j)), .ref 73, .int 8, .int (nI j), .ref 65]) (h' := kv_wd (kv_uf g 66 (kx_lm (g 66) (fun j => g 73 (40 * k + j)) j)) w) rfl ?_
          refine kx_ia (k := (40 * k + j)) rfl rfl (by decide) (kx_i40 k j) (by omega) (by decide) ?_
          refine kx_call (z := 137) (as := [.ref 65, .int (nI j), .int 8, .int ((kv_uf g 66 (kx_lm (g 66) (fun j => g 73 (40 * k + j)) j)) 73 (40 * k + j))]) (rest := []) (v := none) (h1 := kv_wd (kv_up (kv_uf g 66 (kx_lm (g 66) (fun j => g 73 (40 * k + j)) j)) 66 (26 + 9 * j + 8) ((kv_uf g 66 (kx_lm (g 66) (fun j => g 73 (40 * k + j)) j)) 73 (40 * k + j))) w) rfl (ev_gets (d := d + 1) j 8 (by omega) ((kv_uf g 66 (kx_lm (g 66) (fun j => g 73 (40 * k + j)) j)) 73 (40 * k + j))) ?_
          refine kx_st 0 (pc' := 88) (L' := [some (.ref 65), some (.int (nI k)), some (.int (nI j))]) (st' := []) (h' := kv_wd (kv_up (kv_uf g 66 (kx_lm (g 66) (fun j => g 73 (40 * k + j)) j)) 66 (26 + 9 * j + 8) ((kv_uf g 66 (kx_lm (g 66) (fun j => g 73 (40 * k + j)) j)) 73 (40 * k + j))) w) rfl ?_
          refine kx_st 2 (pc' := 32) (L' := [some (.ref 65), some (.int (nI k)), some (.int ((nI j) + 1))]) (st' := []) (h' := kv_wd (kv_up (kv_uf g 66 (kx_lm (g 66) (fun j => g 73 (40 * k + j)) j)) 66 (26 + 9 * j + 8) ((kv_uf g 66 (kx_lm (g 66) (fun j => g 73 (40 * k + j)) j)) 73 (40 * k + j))) w) rfl ?_
          rw [show kv_up (kv_uf g 66 (kx_lm (g 66) (fun j => g 73 (40 * k + j)) j)) 66 (26 + 9 * j + 8) ((kv_uf g 66 (kx_lm (g 66) (fun j => g 73 (40 * k + j)) j)) 73 (40 * k + j)) = kv_uf g 66 (kx_lm (g 66) (fun j => g 73 (40 * k + j)) (j + 1)) from kx_lm_g (f := fun j => g 73 (40 * k + j)), ← nI_succ]
          exact ih (j + 1) (by omega)
section KP11
variable {E : kv_V} {lr : kx_LR}
set_option maxRecDepth 100000 in
theorem pr_fits (a : Int32) : kx_ok2 E (kx_Rl lr) 108 201 [.int a] := by
  intro g w i hR hi
  have hR0 := hR
  obtain ⟨q, cu, ⟨H1, H2, H3, H4, H5, hz, l0, l1⟩, im, sh, tr, er⟩ := id hR
  obtain ⟨s, t, m, ⟨a1, a2, a3, a4⟩, ⟨b1, b2⟩, ⟨c1, c2⟩, ⟨d1, d2⟩, hk⟩ := id H1
  by_cases hv : 0 ≤ a ∧ a ≤ 3
  · obtain ⟨k, hk3, rfl⟩ := kx_nIof (n := 3) hv.1 hv.2 (by omega)
    have hk4 : k < 4 := by omega
    obtain ⟨s1, s2, ⟨n, n40, n2⟩, s4⟩ := kx_sh_at sh hk4
    by_cases hb : g 71 k = 0
    · refine kx_two (by decide) (Nat.le_of_ble_eq_true rfl) (by decide) (Nat.le_of_ble_eq_true rfl) ?_
      refine kx_st 0 (pc' := 0) (L' := [some (.ref 0), some (.int (nI k)), none, none, none]) (st' := []) (h' := kv_wd g w) rfl ?_
      refine kx_st 2 (pc' := 2) (L' := [some (.ref 0), some (.int (nI k)), none, none, none]) (st' := [.int (nI k), .ref 0]) (h' := kv_wd g w) rfl ?_
      refine kx_call (z := 127) (as := [.ref 0, .int (nI k)]) (rest := []) (v := some (.ref (56 + 2 * k))) (h1 := kv_wd g w) rfl (ev_sheetAt (d := 898) q k hk4) ?_
      refine kx_st 0 (pc' := 5) (L' := [some (.ref 0), some (.int (nI k)), none, none, none]) (st' := [.ref (56 + 2 * k)]) (h' := kv_wd g w) rfl ?_
      refine kx_st 2 (pc' := 7) (L' := [some (.ref 0), some (.int (nI k)), some (.ref (56 + 2 * k)), none, none]) (st' := [.ref (56 + 2 * k)]) (h' := kv_wd g w) rfl ?_
      refine kx_st 1 (pc' := 16) (L' := [some (.ref 0), some (.int (nI k)), some (.ref (56 + 2 * k)), none, none]) (st' := []) (h' := kv_wd g w) rfl ?_
      refine kx_st 1 (pc' := 17) (L' := [some (.ref 0), some (.int (nI k)), some (.ref (56 + 2 * k)), none, none]) (st' := [.ref (56 + 2 * k)]) (h' := kv_wd g w) rfl ?_
      refine kx_gf (i := 254) (k := 0) (v := .int (g (56 + 2 * k) 0)) rfl rfl (by have := (kv_st_h hk4).1; omega) ((kv_st_h hk4).2.1 _ _) rfl ?_
      refine kx_bc (t := 29) rfl rfl (fun (h20 : ¬ g (56 + 2 * k) 0 = 0) => ?_) (fun (h20 : ¬ (¬ g (56 + 2 * k) 0 = 0)) => ?_)
      · exact absurd (s1.trans hb) h20
      · refine kx_st 0 (pc' := 23) (L' := [some (.ref 0), some (.int (nI k)), some (.ref (56 + 2 * k)), none, none]) (st' := []) (h' := kv_wd g w) rfl ?_
        refine kx_st 2 (pc' := 25) (L' := [some (.ref 0), some (.int (nI k)), some (.ref (56 + 2 * k)), none, none]) (st' := [.int 2, .ref 0]) (h' := kv_wd g w) rfl ?_
        refine kx_call (z := 123) (as := [.ref 0, .int 2]) (rest := []) (v := some (.int (-1000000000 - nI 2))) (h1 := kv_wd (kv_up g 64 2 (g 64 2 + 1)) w) rfl (ev_error (d := 898) 2 (by decide) (by decide)) ?_
        refine kx_st 0 (pc' := 28) (L' := [some (.ref 0), some (.int (nI k)), some (.ref (56 + 2 * k)), none, none]) (st' := [.int (-1000000000 - nI 2)]) (h' := kv_wd (kv_up g 64 2 (g 64 2 + 1)) w) rfl ?_
        refine kx_ret (v := some (.int (-1000000000 - nI 2))) rfl ?_
        refine ⟨_, _, _, rfl, rfl, ?_⟩
        refine kx_st 0 (pc' := 0) (L' := [some (.ref 65), some (.int (nI k)), none]) (st' := []) (h' := kv_wd (kv_up g 64 2 (g 64 2 + 1)) w) rfl ?_
        refine kx_st 1 (pc' := 1) (L' := [some (.ref 65), some (.int (nI k)), none]) (st' := [.int (nI k)]) (h' := kv_wd (kv_up g 64 2 (g 64 2 + 1)) w) rfl ?_
        refine kx_call (z := 200) (as := [.int (nI k)]) (rest := []) (v := some (.int (kx_b (0 ≤ nI k ∧ nI k ≤ 3)))) (h1 := kv_wd (kv_up g 64 2 (g 64 2 + 1)) w) rfl (ev_isSheet (d := 897) (nI k)) ?_
        refine kx_st 0 (pc' := 4) (L' := [some (.ref 65), some (.int (nI k)), none]) (st' := [.int (kx_b (0 ≤ nI k ∧ nI k ≤ 3))]) (h' := kv_wd (kv_up g 64 2 (g 64 2 + 1)) w) rfl ?_
        refine kx_bn (t := 14) rfl rfl (fun (m4 : (0 ≤ nI k ∧ nI k ≤ 3)) => ?_) (fun (m4 : ¬ (0 ≤ nI k ∧ nI k ≤ 3)) => ?_)
        · refine kx_st 3 (pc' := 19) (L' := [some (.ref 65), some (.int (nI k)), none]) (st' := [.int (nI k), .ref 71]) (h' := kv_wd (kv_up g 64 2 (g 64 2 + 1)) w) rfl ?_
          refine kx_ia (k := k) rfl rfl (by decide) rfl (by omega) (by decide) ?_
          refine kx_bc (t := 30) rfl rfl (fun (m20 : ¬ (kv_up g 64 2 (g 64 2 + 1)) 71 k = 0) => ?_) (fun (m20 : ¬ (¬ (kv_up g 64 2 (g 64 2 + 1)) 71 k = 0)) => ?_)
          · exact absurd hb m20
          · refine kx_st 0 (pc' := 23) (L' := [some (.ref 65), some (.int (nI k)), none]) (st' := []) (h' := kv_wd (kv_up g 64 2 (g 64 2 + 1)) w) rfl ?_
            refine kx_st 2 (pc' := 26) (L' := [some (.ref 65), some (.int (nI k)), none]) (st' := [.int (-1000000002), .ref 65]) (h' := kv_wd (kv_up g 64 2 (g 64 2 + 1)) w) rfl ?_
            refine kx_call (z := 131) (as := [.ref 65, .int (-1000000002)]) (rest := []) (v := some (.int (-1000000002))) (h1 := kv_wd (kv_up (kv_up g 64 2 (g 64 2 + 1)) 70 2 ((kv_up g 64 2 (g 64 2 + 1)) 70 2 + 1)) w) rfl (ev_errs (d := 898) (-1000000002) 2 (by decide) (by decide)) ?_
            refine kx_st 0 (pc' := 29) (L' := [some (.ref 65), some (.int (nI k)), none]) (st' := [.int (-1000000002)]) (h' := kv_wd (kv_up (kv_up g 64 2 (g 64 2 + 1)) 70 2 ((kv_up g 64 2 (g 64 2 + 1)) 70 2 + 1)) w) rfl ?_
            refine kx_ret (v := some (.int (-1000000002))) rfl ?_
            exact ⟨rfl, _, _, rfl, kx_Rl_e hR⟩
        · exact absurd hv m4
    · have hV : ∀ j, j < m → ∃ x z, x < 6 ∧ z < 6 ∧ g 66 (26 + 9 * j + 2) = nI x ∧ g 66 (26 + 9 * j + 3) = nI z ∧ g 66 (8 + x) + g 66 (14 + z) = g 66 (8 + (g 66 (26 + 9 * j + 2)).toNatClampNeg) + g 66 (14 + (g 66 (26 + 9 * j + 3)).toNatClampNeg) := fun j hj => by
        obtain ⟨-, -, -, ⟨x, z, hx, hz, -, e2, e3⟩, -⟩ := hk j hj
        exact ⟨x, z, by omega, by omega, e2, e3, by rw [show g 66 (26 + 9 * j + 2) = nI x from e2, show g 66 (26 + 9 * j + 3) = nI z from e3, nI_clamp (by omega), nI_clamp (by omega)]⟩
      have hW : ∀ j, j < m → ∃ x z, x < 6 ∧ z < 6 ∧ g (14 + j) 2 = nI x ∧ g (14 + j) 3 = nI z ∧ g 3 x + g 4 z = g 66 (8 + (g 66 (26 + 9 * j + 2)).toNatClampNeg) + g 66 (14 + (g 66 (26 + 9 * j + 3)).toNatClampNeg) := fun j hj => by
        obtain ⟨x, z, hx, hz, e2, e3, e4⟩ := hV j hj
        have f2 := (hk j hj).1 2 (by omega)
        have f3 := (hk j hj).1 3 (by omega)
        rw [kx_kn_at (by omega)] at f2 f3
        exact ⟨x, z, hx, hz, f2.trans e2, f3.trans e3, by rw [(H2 x hx).1.1, (H2 z hz).1.2]; exact e4⟩
      obtain ⟨e, he, hp, hx⟩ := kx_first (fun j => g 73 (40 * k + j) = g 66 (8 + (g 66 (26 + 9 * j + 2)).toNatClampNeg) + g 66 (14 + (g 66 (26 + 9 * j + 3)).toNatClampNeg)) (min n m)
      have hmn := Nat.min_le_left n m
      have hmm := Nat.min_le_right n m
      refine kx_two (by decide) (Nat.le_of_ble_eq_true rfl) (by decide) (Nat.le_of_ble_eq_true rfl) ?_
      refine kx_st 0 (pc' := 0) (L' := [some (.ref 0), some (.int (nI k)), none, none, none]) (st' := []) (h' := kv_wd g w) rfl ?_
      refine kx_st 2 (pc' := 2) (L' := [some (.ref 0), some (.int (nI k)), none, none, none]) (st' := [.int (nI k), .ref 0]) (h' := kv_wd g w) rfl ?_
      refine kx_call (z := 127) (as := [.ref 0, .int (nI k)]) (rest := []) (v := some (.ref (56 + 2 * k))) (h1 := kv_wd g w) rfl (ev_sheetAt (d := 898) q k hk4) ?_
      refine kx_st 0 (pc' := 5) (L' := [some (.ref 0), some (.int (nI k)), none, none, none]) (st' := [.ref (56 + 2 * k)]) (h' := kv_wd g w) rfl ?_
      refine kx_st 2 (pc' := 7) (L' := [some (.ref 0), some (.int (nI k)), some (.ref (56 + 2 * k)), none, none]) (st' := [.ref (56 + 2 * k)]) (h' := kv_wd g w) rfl ?_
      refine kx_st 1 (pc' := 16) (L' := [some (.ref 0), some (.int (nI k)), some (.ref (56 + 2 * k)), none, none]) (st' := []) (h' := kv_wd g w) rfl ?_
      refine kx_st 1 (pc' := 17) (L' := [some (.ref 0), some (.int (nI k)), some (.ref (56 + 2 * k)), none, none]) (st' := [.ref (56 + 2 * k)]) (h' := kv_wd g w) rfl ?_
      refine kx_gf (i := 254) (k := 0) (v := .int (g (56 + 2 * k) 0)) rfl rfl (by have := (kv_st_h hk4).1; omega) ((kv_st_h hk4).2.1 _ _) rfl ?_
      refine kx_bc (t := 29) rfl rfl (fun (h20 : ¬ g (56 + 2 * k) 0 = 0) => ?_) (fun (h20 : ¬ (¬ g (56 + 2 * k) 0 = 0)) => ?_)
      · refine kx_st 3 (pc' := 32) (L' := [some (.ref 0), some (.int (nI k)), some (.ref (56 + 2 * k)), some (.int 0), none]) (st' := [.ref (56 + 2 * k)]) (h' := kv_wd g w) rfl ?_
        refine kx_gf (i := 257) (k := 1) (v := .int (g (56 + 2 * k) 1)) rfl rfl (by have := (kv_st_h hk4).1; omega) ((kv_st_h hk4).2.1 _ _) rfl ?_
        refine kx_st 5 (pc' := 47) (L' := [some (.ref 0), some (.int (nI k)), some (.ref (56 + 2 * k)), some (.int 0), some (.int (if g 1 4 < g (56 + 2 * k) 1 then g 1 4 else g (56 + 2 * k) 1))]) (st' := []) (h' := kv_wd g w) rfl ?_
        rw [s2, n2, d1, kx_mn (by omega) (by omega)]
        refine lp_xfits (E := E) (d := 896) (g := g) (w := w) q k hk4 n m e (s2.trans n2) n40 d1 a4 he _ hW (fun j hj => by rw [s4 j (by omega)]; exact hp j hj) (Classical.or_iff_not_imp_left.mpr (fun hem => by rw [s4 e (by omega)]; exact hx.resolve_left hem)) ?_ e 0 (by omega)
        refine ⟨_, _, _, rfl, rfl, ?_⟩
        refine kx_st 0 (pc' := 0) (L' := [some (.ref 65), some (.int (nI k)), none]) (st' := []) (h' := kv_wd g w) rfl ?_
        refine kx_st 1 (pc' := 1) (L' := [some (.ref 65), some (.int (nI k)), none]) (st' := [.int (nI k)]) (h' := kv_wd g w) rfl ?_
        refine kx_call (z := 200) (as := [.int (nI k)]) (rest := []) (v := some (.int (kx_b (0 ≤ nI k ∧ nI k ≤ 3)))) (h1 := kv_wd g w) rfl (ev_isSheet (d := 897) (nI k)) ?_
        refine kx_st 0 (pc' := 4) (L' := [some (.ref 65), some (.int (nI k)), none]) (st' := [.int (kx_b (0 ≤ nI k ∧ nI k ≤ 3))]) (h' := kv_wd g w) rfl ?_
        refine kx_bn (t := 14) rfl rfl (fun (m4 : (0 ≤ nI k ∧ nI k ≤ 3)) => ?_) (fun (m4 : ¬ (0 ≤ nI k ∧ nI k ≤ 3)) => ?_)
        · refine kx_st 3 (pc' := 19) (L' := [some (.ref 65), some (.int (nI k)), none]) (st' := [.int (nI k), .ref 71]) (h' := kv_wd g w) rfl ?_
          refine kx_ia (k := k) rfl rfl (by decide) rfl (by omega) (by decide) ?_
          refine kx_bc (t := 30) rfl rfl (fun (m20 : ¬ g 71 k = 0) => ?_) (fun (m20 : ¬ (¬ g 71 k = 0)) => ?_)
          · refine kx_st 2 (pc' := 32) (L' := [some (.ref 65), some (.int (nI k)), some (.int 0)]) (st' := []) (h' := kv_wd g w) rfl ?_
            exact lp_mfits (E := E) (d := 898) (g := g) (w := w) k hk4 n m e n2 n40 d2 a4 he _ hV hp hx ⟨rfl, _, _, rfl, kx_Rl_skip lr g w i hR⟩ e 0 (by omega)
          · exact absurd (Classical.not_not.mp m20) hb
        · exact absurd hv m4
      · exact absurd (s1.symm.trans (Classical.not_not.mp h20)) hb
  · refine kx_two (by decide) (Nat.le_of_ble_eq_true rfl) (by decide) (Nat.le_of_ble_eq_true rfl) ?_
    refine kx_st 0 (pc' := 0) (L' := [some (.ref 0), some (.int a), none, none, none]) (st' := []) (h' := kv_wd g w) rfl ?_
    refine kx_st 2 (pc' := 2) (L' := [some (.ref 0), some (.int a), none, none, none]) (st' := [.int a, .ref 0]) (h' := kv_wd g w) rfl ?_
    refine kx_call (z := 127) (as := [.ref 0, .int a]) (rest := []) (v := some (.null)) (h1 := kv_wd g w) rfl (ev_sheetAt_n (d := 898) a hv) ?_
    refine kx_st 0 (pc' := 5) (L' := [some (.ref 0), some (.int a), none, none, none]) (st' := [.null]) (h' := kv_wd g w) rfl ?_
    refine kx_st 2 (pc' := 7) (L' := [some (.ref 0), some (.int a), some (.null), none, none]) (st' := [.null]) (h' := kv_wd g w) rfl ?_
    refine kx_st 1 (pc' := 10) (L' := [some (.ref 0), some (.int a), some (.null), none, none]) (st' := []) (h' := kv_wd g w) rfl ?_
    refine kx_st 2 (pc' := 12) (L' := [some (.ref 0), some (.int a), some (.null), none, none]) (st' := [.int 1, .ref 0]) (h' := kv_wd g w) rfl ?_
    refine kx_call (z := 123) (as := [.ref 0, .int 1]) (rest := []) (v := some (.int (-1000000000 - nI 1))) (h1 := kv_wd (kv_up g 64 1 (g 64 1 + 1)) w) rfl (ev_error (d := 898) 1 (by decide) (by decide)) ?_
    refine kx_st 0 (pc' := 15) (L' := [some (.ref 0), some (.int a), some (.null), none, none]) (st' := [.int (-1000000000 - nI 1)]) (h' := kv_wd (kv_up g 64 1 (g 64 1 + 1)) w) rfl ?_
    refine kx_ret (v := some (.int (-1000000000 - nI 1))) rfl ?_
    refine ⟨_, _, _, rfl, rfl, ?_⟩
    refine kx_st 0 (pc' := 0) (L' := [some (.ref 65), some (.int a), none]) (st' := []) (h' := kv_wd (kv_up g 64 1 (g 64 1 + 1)) w) rfl ?_
    refine kx_st 1 (pc' := 1) (L' := [some (.ref 65), some (.int a), none]) (st' := [.int a]) (h' := kv_wd (kv_up g 64 1 (g 64 1 + 1)) w) rfl ?_
    refine kx_call (z := 200) (as := [.int a]) (rest := []) (v := some (.int (kx_b (0 ≤ a ∧ a ≤ 3)))) (h1 := kv_wd (kv_up g 64 1 (g 64 1 + 1)) w) rfl (ev_isSheet (d := 897) a) ?_
    refine kx_st 0 (pc' := 4) (L' := [some (.ref 65), some (.int a), none]) (st' := [.int (kx_b (0 ≤ a ∧ a ≤ 3))]) (h' := kv_wd (kv_up g 64 1 (g 64 1 + 1)) w) rfl ?_
    refine kx_bn (t := 14) rfl rfl (fun (m4 : (0 ≤ a ∧ a ≤ 3)) => ?_) (fun (m4 : ¬ (0 ≤ a ∧ a ≤ 3)) => ?_)
    · exact absurd m4 hv
    · refine kx_st 0 (pc' := 7) (L' := [some (.ref 65), some (.int a), none]) (st' := []) (h' := kv_wd (kv_up g 64 1 (g 64 1 + 1)) w) rfl ?_
      refine kx_st 2 (pc' := 10) (L' := [some (.ref 65), some (.int a), none]) (st' := [.int (-1000000001), .ref 65]) (h' := kv_wd (kv_up g 64 1 (g 64 1 + 1)) w) rfl ?_
      refine kx_call (z := 131) (as := [.ref 65, .int (-1000000001)]) (rest := []) (v := some (.int (-1000000001))) (h1 := kv_wd (kv_up (kv_up g 64 1 (g 64 1 + 1)) 70 1 ((kv_up g 64 1 (g 64 1 + 1)) 70 1 + 1)) w) rfl (ev_errs (d := 898) (-1000000001) 1 (by decide) (by decide)) ?_
      refine kx_st 0 (pc' := 13) (L' := [some (.ref 65), some (.int a), none]) (st' := [.int (-1000000001)]) (h' := kv_wd (kv_up (kv_up g 64 1 (g 64 1 + 1)) 70 1 ((kv_up g 64 1 (g 64 1 + 1)) 70 1 + 1)) w) rfl ?_
      refine kx_ret (v := some (.int (-1000000001))) rfl ?_
      exact ⟨rfl, _, _, rfl, kx_Rl_e hR⟩
set_option maxRecDepth 100000 in
theorem pr_loads (a : Int32) : kx_ok2 E (kx_Rl lr) 115 214 [.int a] := by
  intro g w i hR hi
  have hR0 := hR
  obtain ⟨q, cu, ⟨H1, H2, H3, H4, H5, hz, l0, l1⟩, im, sh, tr, er⟩ := id hR
  obtain ⟨s, t, m, ⟨a1, a2, a3, a4⟩, ⟨b1, b2⟩, ⟨c1, c2⟩, ⟨d1, d2⟩, hk⟩ := id H1
  by_cases hv : 0 ≤ a ∧ a ≤ 3
  · obtain ⟨k, hk3, rfl⟩ := kx_nIof (n := 3) hv.1 hv.2 (by omega)
    have hk4 : k < 4 := by omega
    obtain ⟨s1, s2, ⟨n, n40, n2⟩, s4⟩ := kx_sh_at sh hk4
    by_cases hb : g 71 k = 0
    · refine kx_two (by decide) (Nat.le_of_ble_eq_true rfl) (by decide) (Nat.le_of_ble_eq_true rfl) ?_
      refine kx_st 0 (pc' := 0) (L' := [some (.ref 0), some (.int (nI k)), none, none, none]) (st' := []) (h' := kv_wd g w) rfl ?_
      refine kx_st 2 (pc' := 2) (L' := [some (.ref 0), some (.int (nI k)), none, none, none]) (st' := [.int (nI k), .ref 0]) (h' := kv_wd g w) rfl ?_
      refine kx_call (z := 127) (as := [.ref 0, .int (nI k)]) (rest := []) (v := some (.ref (56 + 2 * k))) (h1 := kv_wd g w) rfl (ev_sheetAt (d := 898) q k hk4) ?_
      refine kx_st 0 (pc' := 5) (L' := [some (.ref 0), some (.int (nI k)), none, none, none]) (st' := [.ref (56 + 2 * k)]) (h' := kv_wd g w) rfl ?_
      refine kx_st 2 (pc' := 7) (L' := [some (.ref 0), some (.int (nI k)), some (.ref (56 + 2 * k)), none, none]) (st' := [.ref (56 + 2 * k)]) (h' := kv_wd g w) rfl ?_
      refine kx_st 1 (pc' := 16) (L' := [some (.ref 0), some (.int (nI k)), some (.ref (56 + 2 * k)), none, none]) (st' := []) (h' := kv_wd g w) rfl ?_
      refine kx_st 1 (pc' := 17) (L' := [some (.ref 0), some (.int (nI k)), some (.ref (56 + 2 * k)), none, none]) (st' := [.ref (56 + 2 * k)]) (h' := kv_wd g w) rfl ?_
      refine kx_gf (i := 254) (k := 0) (v := .int (g (56 + 2 * k) 0)) rfl rfl (by have := (kv_st_h hk4).1; omega) ((kv_st_h hk4).2.1 _ _) rfl ?_
      refine kx_bc (t := 29) rfl rfl (fun (h20 : ¬ g (56 + 2 * k) 0 = 0) => ?_) (fun (h20 : ¬ (¬ g (56 + 2 * k) 0 = 0)) => ?_)
      · exact absurd (s1.trans hb) h20
      · refine kx_st 0 (pc' := 23) (L' := [some (.ref 0), some (.int (nI k)), some (.ref (56 + 2 * k)), none, none]) (st' := []) (h' := kv_wd g w) rfl ?_
        refine kx_st 2 (pc' := 25) (L' := [some (.ref 0), some (.int (nI k)), some (.ref (56 + 2 * k)), none, none]) (st' := [.int 2, .ref 0]) (h' := kv_wd g w) rfl ?_
        refine kx_call (z := 123) (as := [.ref 0, .int 2]) (rest := []) (v := some (.int (-1000000000 - nI 2))) (h1 := kv_wd (kv_up g 64 2 (g 64 2 + 1)) w) rfl (ev_error (d := 898) 2 (by decide) (by decide)) ?_
        refine kx_st 0 (pc' := 28) (L' := [some (.ref 0), some (.int (nI k)), some (.ref (56 + 2 * k)), none, none]) (st' := [.int (-1000000000 - nI 2)]) (h' := kv_wd (kv_up g 64 2 (g 64 2 + 1)) w) rfl ?_
        refine kx_ret (v := some (.int (-1000000000 - nI 2))) rfl ?_
        refine ⟨_, _, _, rfl, rfl, ?_⟩
        refine kx_st 0 (pc' := 0) (L' := [some (.ref 65), some (.int (nI k)), none]) (st' := []) (h' := kv_wd (kv_up g 64 2 (g 64 2 + 1)) w) rfl ?_
        refine kx_st 1 (pc' := 1) (L' := [some (.ref 65), some (.int (nI k)), none]) (st' := [.int (nI k)]) (h' := kv_wd (kv_up g 64 2 (g 64 2 + 1)) w) rfl ?_
        refine kx_call (z := 200) (as := [.int (nI k)]) (rest := []) (v := some (.int (kx_b (0 ≤ nI k ∧ nI k ≤ 3)))) (h1 := kv_wd (kv_up g 64 2 (g 64 2 + 1)) w) rfl (ev_isSheet (d := 897) (nI k)) ?_
        refine kx_st 0 (pc' := 4) (L' := [some (.ref 65), some (.int (nI k)), none]) (st' := [.int (kx_b (0 ≤ nI k ∧ nI k ≤ 3))]) (h' := kv_wd (kv_up g 64 2 (g 64 2 + 1)) w) rfl ?_
        refine kx_bn (t := 14) rfl rfl (fun (m4 : (0 ≤ nI k ∧ nI k ≤ 3)) => ?_) (fun (m4 : ¬ (0 ≤ nI k ∧ nI k ≤ 3)) => ?_)
        · refine kx_st 3 (pc' := 19) (L' := [some (.ref 65), some (.int (nI k)), none]) (st' := [.int (nI k), .ref 71]) (h' := kv_wd (kv_up g 64 2 (g 64 2 + 1)) w) rfl ?_
          refine kx_ia (k := k) rfl rfl (by decide) rfl (by omega) (by decide) ?_
          refine kx_bc (t := 30) rfl rfl (fun (m20 : ¬ (kv_up g 64 2 (g 64 2 + 1)) 71 k = 0) => ?_) (fun (m20 : ¬ (¬ (kv_up g 64 2 (g 64 2 + 1)) 71 k = 0)) => ?_)
          · exact absurd hb m20
          · refine kx_st 0 (pc' := 23) (L' := [some (.ref 65), some (.int (nI k)), none]) (st' := []) (h' := kv_wd (kv_up g 64 2 (g 64 2 + 1)) w) rfl ?_
            refine kx_st 2 (pc' := 26) (L' := [some (.ref 65), some (.int (nI k)), none]) (st' := [.int (-1000000002), .ref 65]) (h' := kv_wd (kv_up g 64 2 (g 64 2 + 1)) w) rfl ?_
            refine kx_call (z := 131) (as := [.ref 65, .int (-1000000002)]) (rest := []) (v := some (.int (-1000000002))) (h1 := kv_wd (kv_up (kv_up g 64 2 (g 64 2 + 1)) 70 2 ((kv_up g 64 2 (g 64 2 + 1)) 70 2 + 1)) w) rfl (ev_errs (d := 898) (-1000000002) 2 (by decide) (by decide)) ?_
            refine kx_st 0 (pc' := 29) (L' := [some (.ref 65), some (.int (nI k)), none]) (st' := [.int (-1000000002)]) (h' := kv_wd (kv_up (kv_up g 64 2 (g 64 2 + 1)) 70 2 ((kv_up g 64 2 (g 64 2 + 1)) 70 2 + 1)) w) rfl ?_
            refine kx_ret (v := some (.int (-1000000002))) rfl ?_
            exact ⟨rfl, _, _, rfl, kx_Rl_e hR⟩
        · exact absurd hv m4
    · obtain ⟨e, he, hp, hx⟩ := kx_first (fun j => 0 ≤ g 73 (40 * k + j) ∧ g 73 (40 * k + j) ≤ 99) (min n m)
      have hmn := Nat.min_le_left n m
      have hmm := Nat.min_le_right n m
      have r66 : ∀ j, kx_lo g k e 66 j = g 66 j := fun j => congrFun (kx_lo_r (by omega) (by omega)) j
      have R66 : kx_lo g k e 66 = g 66 := kx_lo_r (by omega) (by omega)
      have R73 : kx_lo g k e 73 = g 73 := kx_lo_r (by omega) (by omega)
      have R72 : kx_lo g k e 72 = g 72 := kx_lo_r (by omega) (by omega)
      have R71 : kx_lo g k e 71 = g 71 := kx_lo_r (by omega) (by omega)
      have en : ∀ j, (j < 26 ∨ 98 ≤ j) → kx_lm (g 66) (fun j => g 73 (40 * k + j)) e j = g 66 j := fun j hj => if_neg (by omega)
      have ei : ∀ i c, i < 8 → c < 9 → kx_lm (g 66) (fun j => g 73 (40 * k + j)) e (26 + 9 * i + c) = if c = 8 ∧ i < e then g 73 (40 * k + i) else g 66 (26 + 9 * i + c) := fun i c hi hc => by
        unfold kx_lm
        by_cases hci : c = 8 ∧ i < e
        · rw [if_pos (by omega), if_pos hci, show (26 + 9 * i + c - 26) / 9 = i by omega]
        · rw [if_neg (by omega), if_neg hci]
      have hfin : kx_Rl lr (kv_uf (kx_lo g k e) 66 (kx_lm (kx_lo g k e 66) (fun j => kx_lo g k e 73 (40 * k + j)) e)) w (i + 1) := by
        rw [R66, R73]
        have gb : ∀ b, (b < 14 ∨ 22 ≤ b) → b ≠ 66 → kv_uf (kx_lo g k e) 66 (kx_lm (g 66) (fun j => g 73 (40 * k + j)) e) b = g b := fun b hb hb2 => by rw [kv_uf_ne hb2, kx_lo_r (by omega) hb]
        have g66 : kv_uf (kx_lo g k e) 66 (kx_lm (g 66) (fun j => g 73 (40 * k + j)) e) 66 = kx_lm (g 66) (fun j => g 73 (40 * k + j)) e := kv_uf_self _ _ _
        have kn : ∀ i c, i < 8 → kx_kn (kv_uf (kx_lo g k e) 66 (kx_lm (g 66) (fun j => g 73 (40 * k + j)) e)) i c = if c = 8 ∧ i < e then g (57 + 2 * k) i else kx_kn g i c := fun i c hi => by
          rw [kx_kn_at hi, kx_kn_at hi, kv_uf_ne (by omega)]
          unfold kx_lo upd
          by_cases hie : i < e
          · rw [if_pos (by omega), show 14 + i - 14 = i by omega]
            simp only [hie, and_true]
          · rw [if_neg (by omega), if_neg (by omega)]
        refine kx_Rl_hn hR q (fun b hb hb2 => gb b (by omega) (by omega)) (fun z hz => by rw [gb 65 (by omega) (by omega)]) ⟨by rw [gb 6 (by omega) (by omega)], by rw [gb 9 (by omega) (by omega)]⟩ (kx_hn_mk ⟨H1, H2, H3, H4, H5, hz, l0, l1⟩ ?_ ?_ ?_ ?_ ?_ ?_ ?_ ?_)
        · rw [gb 1 (by omega) (by omega), g66]
          refine ⟨s, t, m, ⟨a1, a2, a3, a4⟩, ⟨b1, (en 3 (by omega)).trans b2⟩, ⟨c1, fun p hp => (en _ (by omega)).trans (c2 p hp)⟩, ⟨d1, (en 2 (by omega)).trans d2⟩, fun j hj => ?_⟩
          obtain ⟨q1, q2, q3, q4, q5, q6, q7, q8, q9⟩ := hk j hj
          dsimp only at q1 q2 q3 q4 q5 q6 q7 q8 q9
          refine ⟨fun c hc => ?_, ?_, ?_, ?_, ?_, ?_, ?_, ?_, ?_⟩ <;> dsimp only
          · rw [kn j c (by omega), ei j c (by omega) hc, s4 j (by omega)]
            by_cases h8 : c = 8 ∧ j < e
            · rw [if_pos h8, if_pos h8]
            · rw [if_neg h8, if_neg h8]; exact q1 c hc
          · rw [ei j 0 (by omega) (by omega), if_neg (by omega)]; exact q2
          · rw [ei j 1 (by omega) (by omega), if_neg (by omega)]; exact q3
          · rw [ei j 2 (by omega) (by omega), if_neg (by omega), ei j 3 (by omega) (by omega), if_neg (by omega)]; exact q4
          · rw [ei j 4 (by omega) (by omega), if_neg (by omega)]; exact q5
          · rw [ei j 5 (by omega) (by omega), if_neg (by omega)]; exact q6
          · rw [ei j 6 (by omega) (by omega), if_neg (by omega)]; exact q7
          · rw [ei j 7 (by omega) (by omega), if_neg (by omega)]; exact q8
          · rw [ei j 8 (by omega) (by omega)]
            by_cases h8 : 8 = 8 ∧ j < e
            · rw [if_pos h8]; exact kx_nIof (n := 99) (hp j h8.2).1 (hp j h8.2).2 (by omega)
            · rw [if_neg h8]; exact q9
        · rw [gb 3 (by omega) (by omega), gb 4 (by omega) (by omega), g66]; exact kx_H2_cg (fun _ _ => rfl) (fun _ _ => rfl) (fun j hj => en j (by omega)) H2
        · rw [gb 2 (by omega) (by omega), g66]; exact kx_H3_cg rfl (en 0 (by omega)) H3
        · rw [gb 1 (by omega) (by omega), gb 12 (by omega) (by omega), g66]; exact kx_H4_cg rfl (fun _ _ => rfl) (fun j hj => en j (by omega)) H4
        · rw [gb 1 (by omega) (by omega), gb 13 (by omega) (by omega), g66]; exact kx_H5_cg rfl (fun _ _ => rfl) (fun j hj => en j (by omega)) H5
        · rw [gb 1 (by omega) (by omega), g66]; exact hz.trans (en 1 (by omega)).symm
        · exact ⟨by rw [gb 6 (by omega) (by omega)], gb 7 (by omega) (by omega), by rw [gb 9 (by omega) (by omega)], gb 10 (by omega) (by omega)⟩
        · intro j hj; rw [g66]; exact en j (by omega)
      refine kx_two (by decide) (Nat.le_of_ble_eq_true rfl) (by decide) (Nat.le_of_ble_eq_true rfl) ?_
      refine kx_st 0 (pc' := 0) (L' := [some (.ref 0), some (.int (nI k)), none, none, none]) (st' := []) (h' := kv_wd g w) rfl ?_
      refine kx_st 2 (pc' := 2) (L' := [some (.ref 0), some (.int (nI k)), none, none, none]) (st' := [.int (nI k), .ref 0]) (h' := kv_wd g w) rfl ?_
      refine kx_call (z := 127) (as := [.ref 0, .int (nI k)]) (rest := []) (v := some (.ref (56 + 2 * k))) (h1 := kv_wd g w) rfl (ev_sheetAt (d := 898) q k hk4) ?_
      refine kx_st 0 (pc' := 5) (L' := [some (.ref 0), some (.int (nI k)), none, none, none]) (st' := [.ref (56 + 2 * k)]) (h' := kv_wd g w) rfl ?_
      refine kx_st 2 (pc' := 7) (L' := [some (.ref 0), some (.int (nI k)), some (.ref (56 + 2 * k)), none, none]) (st' := [.ref (56 + 2 * k)]) (h' := kv_wd g w) rfl ?_
      refine kx_st 1 (pc' := 16) (L' := [some (.ref 0), some (.int (nI k)), some (.ref (56 + 2 * k)), none, none]) (st' := []) (h' := kv_wd g w) rfl ?_
      refine kx_st 1 (pc' := 17) (L' := [some (.ref 0), some (.int (nI k)), some (.ref (56 + 2 * k)), none, none]) (st' := [.ref (56 + 2 * k)]) (h' := kv_wd g w) rfl ?_
      refine kx_gf (i := 254) (k := 0) (v := .int (g (56 + 2 * k) 0)) rfl rfl (by have := (kv_st_h hk4).1; omega) ((kv_st_h hk4).2.1 _ _) rfl ?_
      refine kx_bc (t := 29) rfl rfl (fun (h20 : ¬ g (56 + 2 * k) 0 = 0) => ?_) (fun (h20 : ¬ (¬ g (56 + 2 * k) 0 = 0)) => ?_)
      · refine kx_st 1 (pc' := 30) (L' := [some (.ref 0), some (.int (nI k)), some (.ref (56 + 2 * k)), none, none]) (st' := [.ref (56 + 2 * k)]) (h' := kv_wd g w) rfl ?_
        refine kx_gf (i := 257) (k := 1) (v := .int (g (56 + 2 * k) 1)) rfl rfl (by have := (kv_st_h hk4).1; omega) ((kv_st_h hk4).2.1 _ _) rfl ?_
        refine kx_st 7 (pc' := 47) (L' := [some (.ref 0), some (.int (nI k)), some (.ref (56 + 2 * k)), some (.int (if g 1 4 < g (56 + 2 * k) 1 then g 1 4 else g (56 + 2 * k) 1)), some (.int 0)]) (st' := []) (h' := kv_wd g w) rfl ?_
        rw [s2, n2, d1, kx_mn (by omega) (by omega)]
        rw [show kv_wd g w = kv_wd (kx_lo g k 0) w by rw [kx_lo_0]]
        refine lp_xloads (E := E) (d := 898) (g := g) (w := w) q k hk4 n m e n40 a4 he (fun j hj => by rw [s4 j (by omega)]; exact hp j hj) (Classical.or_iff_not_imp_left.mpr (fun hem => by rw [s4 e (by omega)]; exact hx.resolve_left hem)) ?_ e 0 (by omega)
        refine ⟨_, _, _, rfl, rfl, ?_⟩
        refine kx_st 0 (pc' := 0) (L' := [some (.ref 65), some (.int (nI k)), none]) (st' := []) (h' := kv_wd (kx_lo g k e) w) rfl ?_
        refine kx_st 1 (pc' := 1) (L' := [some (.ref 65), some (.int (nI k)), none]) (st' := [.int (nI k)]) (h' := kv_wd (kx_lo g k e) w) rfl ?_
        refine kx_call (z := 200) (as := [.int (nI k)]) (rest := []) (v := some (.int (kx_b (0 ≤ nI k ∧ nI k ≤ 3)))) (h1 := kv_wd (kx_lo g k e) w) rfl (ev_isSheet (d := 897) (nI k)) ?_
        refine kx_st 0 (pc' := 4) (L' := [some (.ref 65), some (.int (nI k)), none]) (st' := [.int (kx_b (0 ≤ nI k ∧ nI k ≤ 3))]) (h' := kv_wd (kx_lo g k e) w) rfl ?_
        refine kx_bn (t := 14) rfl rfl (fun (m4 : (0 ≤ nI k ∧ nI k ≤ 3)) => ?_) (fun (m4 : ¬ (0 ≤ nI k ∧ nI k ≤ 3)) => ?_)
        · refine kx_st 3 (pc' := 19) (L' := [some (.ref 65), some (.int (nI k)), none]) (st' := [.int (nI k), .ref 71]) (h' := kv_wd (kx_lo g k e) w) rfl ?_
          refine kx_ia (k := k) rfl rfl (by decide) rfl (by omega) (by decide) ?_
          refine kx_bc (t := 30) rfl rfl (fun (m20 : ¬ (kx_lo g k e) 71 k = 0) => ?_) (fun (m20 : ¬ (¬ (kx_lo g k e) 71 k = 0)) => ?_)
          · refine kx_st 2 (pc' := 32) (L' := [some (.ref 65), some (.int (nI k)), some (.int 0)]) (st' := []) (h' := kv_wd (kx_lo g k e) w) rfl ?_
            have hl := lp_mloads (E := E) (d := 897) (g := kx_lo g k e) (w := w) k hk4 n m e (by rw [R72]; exact n2) n40 (by rw [R66]; exact d2) a4 he (fun j hj => by rw [R73]; exact hp j hj) (by rw [R73]; exact hx) (P := fun v' h' => v' = some (.int (nI e)) ∧ ∃ g2 w2, h' = kv_wd g2 w2 ∧ kx_Rl lr g2 w2 (i + 1)) ⟨rfl, _, _, rfl, hfin⟩ e 0 (by omega)
            rw [kx_lm_0, kv_uf_id] at hl
            exact hl
          · exact absurd (Classical.not_not.mp m20) (by rw [R71]; exact hb)
        · exact absurd hv m4
      · exact absurd (s1.symm.trans (Classical.not_not.mp h20)) hb
  · refine kx_two (by decide) (Nat.le_of_ble_eq_true rfl) (by decide) (Nat.le_of_ble_eq_true rfl) ?_
    refine kx_st 0 (pc' := 0) (L' := [some (.ref 0), some (.int a), none, none, none]) (st' := []) (h' := kv_wd g w) rfl ?_
    refine kx_st 2 (pc' := 2) (L' := [some (.ref 0), some (.int a), none, none, none]) (st' := [.int a, .ref 0]) (h' := kv_wd g w) rfl ?_
    refine kx_call (z := 127) (as := [.ref 0, .int a]) (rest := []) (v := some (.null)) (h1 := kv_wd g w) rfl (ev_sheetAt_n (d := 898) a hv) ?_
    refine kx_st 0 (pc' := 5) (L' := [some (.ref 0), some (.int a), none, none, none]) (st' := [.null]) (h' := kv_wd g w) rfl ?_
    refine kx_st 2 (pc' := 7) (L' := [some (.ref 0), some (.int a), some (.null), none, none]) (st' := [.null]) (h' := kv_wd g w) rfl ?_
    refine kx_st 1 (pc' := 10) (L' := [some (.ref 0), some (.int a), some (.null), none, none]) (st' := []) (h' := kv_wd g w) rfl ?_
    refine kx_st 2 (pc' := 12) (L' := [some (.ref 0), some (.int a), some (.null), none, none]) (st' := [.int 1, .ref 0]) (h' := kv_wd g w) rfl ?_
    refine kx_call (z := 123) (as := [.ref 0, .int 1]) (rest := []) (v := some (.int (-1000000000 - nI 1))) (h1 := kv_wd (kv_up g 64 1 (g 64 1 + 1)) w) rfl (ev_error (d := 898) 1 (by decide) (by decide)) ?_
    refine kx_st 0 (pc' := 15) (L' := [some (.ref 0), some (.int a), some (.null), none, none]) (st' := [.int (-1000000000 - nI 1)]) (h' := kv_wd (kv_up g 64 1 (g 64 1 + 1)) w) rfl ?_
    refine kx_ret (v := some (.int (-1000000000 - nI 1))) rfl ?_
    refine ⟨_, _, _, rfl, rfl, ?_⟩
    refine kx_st 0 (pc' := 0) (L' := [some (.ref 65), some (.int a), none]) (st' := []) (h' := kv_wd (kv_up g 64 1 (g 64 1 + 1)) w) rfl ?_
    refine kx_st 1 (pc' := 1) (L' := [some (.ref 65), some (.int a), none]) (st' := [.int a]) (h' := kv_wd (kv_up g 64 1 (g 64 1 + 1)) w) rfl ?_
    refine kx_call (z := 200) (as := [.int a]) (rest := []) (v := some (.int (kx_b (0 ≤ a ∧ a ≤ 3)))) (h1 := kv_wd (kv_up g 64 1 (g 64 1 + 1)) w) rfl (ev_isSheet (d := 897) a) ?_
    refine kx_st 0 (pc' := 4) (L' := [some (.ref 65), some (.int a), none]) (st' := [.int (kx_b (0 ≤ a ∧ a ≤ 3))]) (h' := kv_wd (kv_up g 64 1 (g 64 1 + 1)) w) rfl ?_
    refine kx_bn (t := 14) rfl rfl (fun (m4 : (0 ≤ a ∧ a ≤ 3)) => ?_) (fun (m4 : ¬ (0 ≤ a ∧ a ≤ 3)) => ?_)
    · exact absurd m4 hv
    · refine kx_st 0 (pc' := 7) (L' := [some (.ref 65), some (.int a), none]) (st' := []) (h' := kv_wd (kv_up g 64 1 (g 64 1 + 1)) w) rfl ?_
      refine kx_st 2 (pc' := 10) (L' := [some (.ref 65), some (.int a), none]) (st' := [.int (-1000000001), .ref 65]) (h' := kv_wd (kv_up g 64 1 (g 64 1 + 1)) w) rfl ?_
      refine kx_call (z := 131) (as := [.ref 65, .int (-1000000001)]) (rest := []) (v := some (.int (-1000000001))) (h1 := kv_wd (kv_up (kv_up g 64 1 (g 64 1 + 1)) 70 1 ((kv_up g 64 1 (g 64 1 + 1)) 70 1 + 1)) w) rfl (ev_errs (d := 898) (-1000000001) 1 (by decide) (by decide)) ?_
      refine kx_st 0 (pc' := 13) (L' := [some (.ref 65), some (.int a), none]) (st' := [.int (-1000000001)]) (h' := kv_wd (kv_up (kv_up g 64 1 (g 64 1 + 1)) 70 1 ((kv_up g 64 1 (g 64 1 + 1)) 70 1 + 1)) w) rfl ?_
      refine kx_ret (v := some (.int (-1000000001))) rfl ?_
      exact ⟨rfl, _, _, rfl, kx_Rl_e hR⟩
end KP11
