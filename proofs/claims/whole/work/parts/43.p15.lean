/-! PAIR: move -/
theorem kx_Rl_sh {lr : kx_LR} {g g' : kv_S} {w : kv_W} {i : Nat} (h : kx_Rl lr g w i) (e : ∀ b, (b < 56 ∨ 63 < b) → b ≠ 71 → b ≠ 72 → b ≠ 73 → b ≠ 74 → g' b = g b) (sh : kx_sh g') : kx_Rl lr g' w (i + 1) := by
  obtain ⟨h1, ⟨u1, u2, u3, u4⟩, h3, ⟨n, n1, n2, n3, n4⟩, h5, h6, h7⟩ := h
  have f : ∀ b, (b < 56 ∨ 63 < b) ∧ b ≠ 71 ∧ b ≠ 72 ∧ b ≠ 73 ∧ b ≠ 74 → g' b = g b := fun b hb => e b hb.1 hb.2.1 hb.2.2.1 hb.2.2.2.1 hb.2.2.2.2
  refine ⟨h1, ⟨by rw [f 6 (by omega), u1], by rw [f 9 (by omega), u2], by rw [f 27 (by omega), u3], by rw [f 30 (by omega), u4]⟩, ?_, ⟨n, by omega, by rw [f 0 (by omega), n2], by rw [f 65 (by omega), n3], ?_⟩, sh, ?_, ?_⟩
  · unfold kx_hn at h3 ⊢
    rw [f 1 (by omega), f 2 (by omega), f 3 (by omega), f 4 (by omega), f 6 (by omega), f 7 (by omega), f 9 (by omega), f 10 (by omega), f 12 (by omega), f 13 (by omega), f 66 (by omega)]
    have ek : kx_kn g' = kx_kn g := by
      funext k
      unfold kx_kn
      split <;> exact f _ (by omega)
    rw [ek]
    exact h3
  · rcases n4 with ⟨z1, z2⟩ | ⟨z1, z2, z3⟩
    · exact Or.inl ⟨z1, by rw [f 65 (by omega), z2]⟩
    · refine Or.inr ⟨z1, by rw [f 65 (by omega), z2], ?_⟩
      unfold kx_hk at z3 ⊢
      rw [f 22 (by omega), f 23 (by omega), f 24 (by omega), f 25 (by omega), f 27 (by omega), f 28 (by omega), f 30 (by omega), f 31 (by omega), f 33 (by omega), f 34 (by omega), f 67 (by omega)]
      have ek : kx_kk g' = kx_kk g := by
        funext k
        unfold kx_kk
        split <;> exact f _ (by omega)
      rw [ek]
      exact z3
  · unfold kx_tr at h6 ⊢
    rw [f 53 (by omega), f 54 (by omega), f 75 (by omega), f 65 (by omega)]
    exact h6
  · unfold kx_er at h7 ⊢
    rw [f 64 (by omega), f 70 (by omega)]
    exact h7
theorem kx_cp_s {f r : Nat → Int32} {o x : Nat} : upd (va_cpy f r 0 o x) (o + x) (f x) = va_cpy f r 0 o (x + 1) := by
  funext y
  unfold upd va_cpy
  by_cases h : y = o + x
  · rw [if_pos h, if_pos (by omega), show 0 + (y - o) = x by omega]
  · rw [if_neg h]
    have e : (o ≤ y ∧ y < o + x) ↔ (o ≤ y ∧ y < o + (x + 1)) := by omega
    simp only [e]
theorem kx_cp_0 {f r : Nat → Int32} {o : Nat} : va_cpy f r 0 o 0 = r := by
  funext y; unfold va_cpy; rw [if_neg (by omega)]
theorem kx_i40b (k b x : Nat) : (40 : Int32) * nI k + nI b + nI x = nI (40 * k + b + x) := by rw [kx_i40, kx_nadd]
set_option maxRecDepth 100000 in
theorem ev_hasPart {E : kv_V} {d : Nat} {g : kv_S} {w : kv_W} (k : Nat) (hk : k < 4) (i n : Int32) : kv_ev E (d + 1) 58 [.ref (56 + 2 * k), .int i, .int n] (kv_wd g w) (some (.int (kx_b (¬ n < 0 ∧ ¬ i < 0 ∧ ¬ g (56 + 2 * k) 1 < n ∧ ¬ g (56 + 2 * k) 1 - n < i)))) (kv_wd g w) := by
  refine kx_ev (d := d + 0) (by decide) (Nat.le_of_ble_eq_true rfl) ?_
  refine kx_st 0 (pc' := 0) (L' := [some (.ref (56 + 2 * k)), some (.int i), some (.int n)]) (st' := []) (h' := kv_wd g w) rfl ?_
  refine kx_st 1 (pc' := 1) (L' := [some (.ref (56 + 2 * k)), some (.int i), some (.int n)]) (st' := [.int n]) (h' := kv_wd g w) rfl ?_
  refine kx_bc (t := 30) rfl rfl (fun (h1 : n < 0) => ?_) (fun (h1 : ¬ (n < 0)) => ?_)
  · refine kx_st 1 (pc' := 31) (L' := [some (.ref (56 + 2 * k)), some (.int i), some (.int n)]) (st' := [.int 0]) (h' := kv_wd g w) rfl ?_
    refine kx_ret (v := some (.int 0)) rfl ?_
    exact ⟨kx_l0 (by grind), rfl⟩
  · refine kx_st 0 (pc' := 4) (L' := [some (.ref (56 + 2 * k)), some (.int i), some (.int n)]) (st' := []) (h' := kv_wd g w) rfl ?_
    refine kx_st 1 (pc' := 5) (L' := [some (.ref (56 + 2 * k)), some (.int i), some (.int n)]) (st' := [.int i]) (h' := kv_wd g w) rfl ?_
    refine kx_bc (t := 30) rfl rfl (fun (h5 : i < 0) => ?_) (fun (h5 : ¬ (i < 0)) => ?_)
    · refine kx_st 1 (pc' := 31) (L' := [some (.ref (56 + 2 * k)), some (.int i), some (.int n)]) (st' := [.int 0]) (h' := kv_wd g w) rfl ?_
      refine kx_ret (v := some (.int 0)) rfl ?_
      exact ⟨kx_l0 (by grind), rfl⟩
    · refine kx_st 0 (pc' := 8) (L' := [some (.ref (56 + 2 * k)), some (.int i), some (.int n)]) (st' := []) (h' := kv_wd g w) rfl ?_
      refine kx_st 2 (pc' := 10) (L' := [some (.ref (56 + 2 * k)), some (.int i), some (.int n)]) (st' := [.ref (56 + 2 * k), .int n]) (h' := kv_wd g w) rfl ?_
      refine kx_gf (i := 13) (k := 1) (v := .int (g (56 + 2 * k) 1)) rfl rfl (by have := (kv_st_h hk).1; omega) ((kv_st_h hk).2.1 _ _) rfl ?_
      refine kx_bi (t := 30) rfl rfl (fun (h13 : g (56 + 2 * k) 1 < n) => ?_) (fun (h13 : ¬ (g (56 + 2 * k) 1 < n)) => ?_)
      · refine kx_st 1 (pc' := 31) (L' := [some (.ref (56 + 2 * k)), some (.int i), some (.int n)]) (st' := [.int 0]) (h' := kv_wd g w) rfl ?_
        refine kx_ret (v := some (.int 0)) rfl ?_
        exact ⟨kx_l0 (by grind), rfl⟩
      · refine kx_st 0 (pc' := 16) (L' := [some (.ref (56 + 2 * k)), some (.int i), some (.int n)]) (st' := []) (h' := kv_wd g w) rfl ?_
        refine kx_st 2 (pc' := 18) (L' := [some (.ref (56 + 2 * k)), some (.int i), some (.int n)]) (st' := [.ref (56 + 2 * k), .int i]) (h' := kv_wd g w) rfl ?_
        refine kx_gf (i := 13) (k := 1) (v := .int (g (56 + 2 * k) 1)) rfl rfl (by have := (kv_st_h hk).1; omega) ((kv_st_h hk).2.1 _ _) rfl ?_
        refine kx_st 2 (pc' := 23) (L' := [some (.ref (56 + 2 * k)), some (.int i), some (.int n)]) (st' := [.int ((g (56 + 2 * k) 1) - n), .int i]) (h' := kv_wd g w) rfl ?_
        refine kx_bi (t := 30) rfl rfl (fun (h23 : (g (56 + 2 * k) 1) - n < i) => ?_) (fun (h23 : ¬ ((g (56 + 2 * k) 1) - n < i)) => ?_)
        · refine kx_st 1 (pc' := 31) (L' := [some (.ref (56 + 2 * k)), some (.int i), some (.int n)]) (st' := [.int 0]) (h' := kv_wd g w) rfl ?_
          refine kx_ret (v := some (.int 0)) rfl ?_
          exact ⟨kx_l0 (by grind), rfl⟩
        · refine kx_st 0 (pc' := 26) (L' := [some (.ref (56 + 2 * k)), some (.int i), some (.int n)]) (st' := []) (h' := kv_wd g w) rfl ?_
          refine kx_st 2 (pc' := 31) (L' := [some (.ref (56 + 2 * k)), some (.int i), some (.int n)]) (st' := [.int 1]) (h' := kv_wd g w) rfl ?_
          refine kx_ret (v := some (.int 1)) rfl ?_
          exact ⟨kx_l1 (by grind), rfl⟩
set_option maxRecDepth 100000 in
theorem lp_move1 {E : kv_V} {d : Nat} {g : kv_S} {w : kv_W} (k j B J N : Nat) (hk : k < 4) (hj : j < 4) (hB : B + N ≤ 40) (hJ : J + N ≤ 40) {P : Option Value → kv_H → Prop} (hP : kx_V E d 213 153 [some (.ref 65), some (.int (nI k)), some (.int (nI B)), some (.int (nI j)), some (.int (nI J)), some (.int (nI N)), some (.int (nI N))] [] (kv_wd (kv_uf g 74 (kx_mv (fun x => g 73 (40 * k + B + x)) (g 74) N)) w) P) : ∀ nz x : Nat, x + nz = N → kx_V E d 213 119 [some (.ref 65), some (.int (nI k)), some (.int (nI B)), some (.int (nI j)), some (.int (nI J)), some (.int (nI N)), some (.int (nI x))] [] (kv_wd (kv_uf g 74 (kx_mv (fun x => g 73 (40 * k + B + x)) (g 74) x)) w) P := by
  intro nz
  induction nz with
  | zero =>
    intro x hkk
    have hkN : x = N := by omega
    refine kx_st 2 (pc' := 123) (L' := [some (.ref 65), some (.int (nI k)), some (.int (nI B)), some (.int (nI j)), some (.int (nI J)), some (.int (nI N)), some (.int (nI x))]) (st' := [.int (nI N), .int (nI x)]) (h' := kv_wd (kv_uf g 74 (kx_mv (fun x => g 73 (40 * k + B + x)) (g 74) x)) w) rfl ?_
    refine kx_bi (t := 153) rfl rfl (fun (h123 : nI N ≤ nI x) => ?_) (fun (h123 : ¬ (nI N ≤ nI x)) => ?_)
    · rw [hkN] at *
      exact hP
    · exact absurd (nI_le (a := N) (b := x) (by omega) (by omega)) h123
  | succ nz ih =>
    intro x hkk
    refine kx_st 2 (pc' := 123) (L' := [some (.ref 65), some (.int (nI k)), some (.int (nI B)), some (.int (nI j)), some (.int (nI J)), some (.int (nI N)), some (.int (nI x))]) (st' := [.int (nI N), .int (nI x)]) (h' := kv_wd (kv_uf g 74 (kx_mv (fun x => g 73 (40 * k + B + x)) (g 74) x)) w) rfl ?_
    refine kx_bi (t := 153) rfl rfl (fun (h123 : nI N ≤ nI x) => ?_) (fun (h123 : ¬ (nI N ≤ nI x)) => ?_)
    · exact absurd h123 (nI_ge (a := x) (b := N) (by omega) (by omega))
    · refine kx_st 0 (pc' := 126) (L' := [some (.ref 65), some (.int (nI k)), some (.int (nI B)), some (.int (nI j)), some (.int (nI J)), some (.int (nI N)), some (.int (nI x))]) (st' := []) (h' := kv_wd (kv_uf g 74 (kx_mv (fun x => g 73 (40 * k + B + x)) (g 74) x)) w) rfl ?_
      refine kx_st 12 (pc' := 145) (L' := [some (.ref 65), some (.int (nI k)), some (.int (nI B)), some (.int (nI j)), some (.int (nI J)), some (.int (nI N)), some (.int (nI x))]) (st' := [.int (((40 * (nI k)) + (nI B)) + (nI x)), .ref 73, .int (nI x), .ref 74]) (h' := kv_wd (kv_uf g 74 (kx_mv (fun x => g 73 (40 * k + B + x)) (g 74) x)) w) rfl ?_
      refine kx_ia (k := (40 * k + B + x)) rfl rfl (by decide) (kx_i40b k B x) (by omega) (by decide) ?_
      refine kx_is (k := x) rfl rfl (by decide) rfl (by omega) (by decide) ?_
      refine kx_st 2 (pc' := 119) (L' := [some (.ref 65), some (.int (nI k)), some (.int (nI B)), some (.int (nI j)), some (.int (nI J)), some (.int (nI N)), some (.int ((nI x) + 1))]) (st' := []) (h' := kv_wd (kv_up (kv_uf g 74 (kx_mv (fun x => g 73 (40 * k + B + x)) (g 74) x)) 74 x ((kv_uf g 74 (kx_mv (fun x => g 73 (40 * k + B + x)) (g 74) x)) 73 (40 * k + B + x))) w) rfl ?_
      rw [show kv_up (kv_uf g 74 (kx_mv (fun x => g 73 (40 * k + B + x)) (g 74) x)) 74 x ((kv_uf g 74 (kx_mv (fun x => g 73 (40 * k + B + x)) (g 74) x)) 73 (40 * k + B + x)) = kv_uf g 74 (kx_mv (fun x => g 73 (40 * k + B + x)) (g 74) (x + 1)) from kx_mv_up g 74 x (fun x => g 73 (40 * k + B + x)) (g 74), ← nI_succ]
      exact ih (x + 1) (by omega)
set_option maxRecDepth 100000 in
theorem lp_move2 {E : kv_V} {d : Nat} {g : kv_S} {w : kv_W} (k j B J N : Nat) (hk : k < 4) (hj : j < 4) (hB : B + N ≤ 40) (hJ : J + N ≤ 40) {P : Option Value → kv_H → Prop} (hP : P (some (.int (nI N))) (kv_wd (kv_uf g 73 (va_cpy (g 74) (g 73) 0 (40 * j + J) N)) w)) : ∀ nz x : Nat, x + nz = N → kx_V E d 213 156 [some (.ref 65), some (.int (nI k)), some (.int (nI B)), some (.int (nI j)), some (.int (nI J)), some (.int (nI N)), some (.int (nI x))] [] (kv_wd (kv_uf g 73 (va_cpy (g 74) (g 73) 0 (40 * j + J) x)) w) P := by
  intro nz
  induction nz with
  | zero =>
    intro x hkk
    have hkN : x = N := by omega
    refine kx_st 2 (pc' := 160) (L' := [some (.ref 65), some (.int (nI k)), some (.int (nI B)), some (.int (nI j)), some (.int (nI J)), some (.int (nI N)), some (.int (nI x))]) (st' := [.int (nI N), .int (nI x)]) (h' := kv_wd (kv_uf g 73 (va_cpy (g 74) (g 73) 0 (40 * j + J) x)) w) rfl ?_
    refine kx_bi (t := 191) rfl rfl (fun (h160 : nI N ≤ nI x) => ?_) (fun (h160 : ¬ (nI N ≤ nI x)) => ?_)
    · refine kx_st 1 (pc' := 193) (L' := [some (.ref 65), some (.int (nI k)), some (.int (nI B)), some (.int (nI j)), some (.int (nI J)), some (.int (nI N)), some (.int (nI x))]) (st' := [.int (nI N)]) (h' := kv_wd (kv_uf g 73 (va_cpy (g 74) (g 73) 0 (40 * j + J) x)) w) rfl ?_
      refine kx_ret (v := some (.int (nI N))) rfl ?_
      subst hkN
      exact hP
    · exact absurd (nI_le (a := N) (b := x) (by omega) (by omega)) h160
  | succ nz ih =>
    intro x hkk
    refine kx_st 2 (pc' := 160) (L' := [some (.ref 65), some (.int (nI k)), some (.int (nI B)), some (.int (nI j)), some (.int (nI J)), some (.int (nI N)), some (.int (nI x))]) (st' := [.int (nI N), .int (nI x)]) (h' := kv_wd (kv_uf g 73 (va_cpy (g 74) (g 73) 0 (40 * j + J) x)) w) rfl ?_
    refine kx_bi (t := 191) rfl rfl (fun (h160 : nI N ≤ nI x) => ?_) (fun (h160 : ¬ (nI N ≤ nI x)) => ?_)
    · exact absurd h160 (nI_ge (a := x) (b := N) (by omega) (by omega))
    · refine kx_st 0 (pc' := 163) (L' := [some (.ref 65), some (.int (nI k)), some (.int (nI B)), some (.int (nI j)), some (.int (nI J)), some (.int (nI N)), some (.int (nI x))]) (st' := []) (h' := kv_wd (kv_uf g 73 (va_cpy (g 74) (g 73) 0 (40 * j + J) x)) w) rfl ?_
      refine kx_st 12 (pc' := 183) (L' := [some (.ref 65), some (.int (nI k)), some (.int (nI B)), some (.int (nI j)), some (.int (nI J)), some (.int (nI N)), some (.int (nI x))]) (st' := [.int (nI x), .ref 74, .int (((40 * (nI j)) + (nI J)) + (nI x)), .ref 73]) (h' := kv_wd (kv_uf g 73 (va_cpy (g 74) (g 73) 0 (40 * j + J) x)) w) rfl ?_
      refine kx_ia (k := x) rfl rfl (by decide) rfl (by omega) (by decide) ?_
      refine kx_is (k := (40 * j + J + x)) rfl rfl (by decide) (kx_i40b j J x) (by omega) (by decide) ?_
      refine kx_st 2 (pc' := 156) (L' := [some (.ref 65), some (.int (nI k)), some (.int (nI B)), some (.int (nI j)), some (.int (nI J)), some (.int (nI N)), some (.int ((nI x) + 1))]) (st' := []) (h' := kv_wd (kv_up (kv_uf g 73 (va_cpy (g 74) (g 73) 0 (40 * j + J) x)) 73 (40 * j + J + x) ((kv_uf g 73 (va_cpy (g 74) (g 73) 0 (40 * j + J) x)) 74 x)) w) rfl ?_
      rw [show kv_up (kv_uf g 73 (va_cpy (g 74) (g 73) 0 (40 * j + J) x)) 73 (40 * j + J + x) ((kv_uf g 73 (va_cpy (g 74) (g 73) 0 (40 * j + J) x)) 74 x) = kv_uf g 73 (va_cpy (g 74) (g 73) 0 (40 * j + J) (x + 1)) from by rw [kv_up_uf, kv_uf_self, kv_uf_uf]; exact congrArg (kv_uf g 73) kx_cp_s, ← nI_succ]
      exact ih (x + 1) (by omega)
section KP15
variable {E : kv_V} {lr : kx_LR}
theorem kx_part {n : Nat} {f b : Int32} (h40 : n ≤ 40) (h : ¬ f < 0 ∧ ¬ b < 0 ∧ ¬ nI n < f ∧ ¬ nI n - f < b) : ∃ N B : Nat, f = nI N ∧ b = nI B ∧ B + N ≤ n := by
  obtain ⟨h1, h2, h3, h4⟩ := h
  obtain ⟨N, hN, rfl⟩ := kx_nIof (n := n) (Int32.not_lt.mp h1) (Int32.not_lt.mp h3) (by omega)
  have e : (nI n - nI N).toInt = (n : Int) - N := by
    rw [Int32.toInt_sub, nI_toInt (by omega), nI_toInt (by omega)]
    simp only [Int.bmod]
    omega
  rw [Int32.lt_iff_toInt_lt] at h2 h4
  rw [e] at h4
  have h0 : (0 : Int32).toInt = 0 := rfl
  refine ⟨N, b.toInt.toNat, rfl, Int32.toInt_inj.mp ?_, by omega⟩
  rw [nI_toInt (by omega)]
  omega
theorem kx_part2 {n : Nat} {f b : Int32} (h40 : n ≤ 40) (h1 : ¬ f < 0) (h2 : ¬ b < 0) (h4 : ¬ nI n - f < b) : ¬ nI n < f := by
  intro h3
  rw [Int32.lt_iff_toInt_lt] at h1 h2 h3 h4
  have hf := Int32.toInt_lt f
  have h0 : (0 : Int32).toInt = 0 := rfl
  rw [nI_toInt (by omega)] at h3
  have e : (nI n - f).toInt = (n : Int) - f.toInt := by
    rw [Int32.toInt_sub, nI_toInt (by omega)]
    simp only [Int.bmod]
    omega
  rw [e] at h4
  omega
set_option maxRecDepth 100000 in
theorem pr_move (a b c e f : Int32) : kx_ok2 E (kx_Rl lr) 114 213 [.int a, .int b, .int c, .int e, .int f] := by
  intro g w i hR hi
  have hR0 := hR
  obtain ⟨q, cu, ⟨H1, H2, H3, H4, H5, hz, l0, l1⟩, im, sh, tr, er⟩ := id hR
  obtain ⟨s, t, m, ⟨a1, a2, a3, a4⟩, ⟨b1, b2⟩, ⟨c1, c2⟩, ⟨d1, d2⟩, hk⟩ := id H1
  by_cases hA : 0 ≤ a ∧ a ≤ 3
  · obtain ⟨k, hk3, rfl⟩ := kx_nIof (n := 3) hA.1 hA.2 (by omega)
    have hk4 : k < 4 := by omega
    by_cases hC : 0 ≤ c ∧ c ≤ 3
    · obtain ⟨j, hj3, rfl⟩ := kx_nIof (n := 3) hC.1 hC.2 (by omega)
      have hj4 : j < 4 := by omega
      obtain ⟨s1, s2, ⟨n, n40, n2⟩, s4⟩ := kx_sh_at sh hk4
      obtain ⟨u1, u2, ⟨y, y40, y2⟩, u4⟩ := kx_sh_at sh hj4
      by_cases hb : g 71 k = 0
      · refine kx_two (by decide) (Nat.le_of_ble_eq_true rfl) (by decide) (Nat.le_of_ble_eq_true rfl) ?_
        refine kx_st 0 (pc' := 0) (L' := [some (.ref 0), some (.int (nI k)), some (.int b), some (.int (nI j)), some (.int e), some (.int f), none, none]) (st' := []) (h' := kv_wd g w) rfl ?_
        refine kx_st 2 (pc' := 2) (L' := [some (.ref 0), some (.int (nI k)), some (.int b), some (.int (nI j)), some (.int e), some (.int f), none, none]) (st' := [.int (nI k), .ref 0]) (h' := kv_wd g w) rfl ?_
        refine kx_call (z := 127) (as := [.ref 0, .int (nI k)]) (rest := []) (v := some (.ref (56 + 2 * k))) (h1 := kv_wd g w) rfl (ev_sheetAt (d := 898) q k hk4) ?_
        refine kx_st 0 (pc' := 5) (L' := [some (.ref 0), some (.int (nI k)), some (.int b), some (.int (nI j)), some (.int e), some (.int f), none, none]) (st' := [.ref (56 + 2 * k)]) (h' := kv_wd g w) rfl ?_
        refine kx_st 3 (pc' := 9) (L' := [some (.ref 0), some (.int (nI k)), some (.int b), some (.int (nI j)), some (.int e), some (.int f), some (.ref (56 + 2 * k)), none]) (st' := [.int (nI j), .ref 0]) (h' := kv_wd g w) rfl ?_
        refine kx_call (z := 127) (as := [.ref 0, .int (nI j)]) (rest := []) (v := some (.ref (56 + 2 * j))) (h1 := kv_wd g w) rfl (ev_sheetAt (d := 898) q j hj4) ?_
        refine kx_st 0 (pc' := 12) (L' := [some (.ref 0), some (.int (nI k)), some (.int b), some (.int (nI j)), some (.int e), some (.int f), some (.ref (56 + 2 * k)), none]) (st' := [.ref (56 + 2 * j)]) (h' := kv_wd g w) rfl ?_
        refine kx_st 2 (pc' := 16) (L' := [some (.ref 0), some (.int (nI k)), some (.int b), some (.int (nI j)), some (.int e), some (.int f), some (.ref (56 + 2 * k)), some (.ref (56 + 2 * j))]) (st' := [.ref (56 + 2 * k)]) (h' := kv_wd g w) rfl ?_
        refine kx_st 1 (pc' := 19) (L' := [some (.ref 0), some (.int (nI k)), some (.int b), some (.int (nI j)), some (.int e), some (.int f), some (.ref (56 + 2 * k)), some (.ref (56 + 2 * j))]) (st' := []) (h' := kv_wd g w) rfl ?_
        refine kx_st 1 (pc' := 21) (L' := [some (.ref 0), some (.int (nI k)), some (.int b), some (.int (nI j)), some (.int e), some (.int f), some (.ref (56 + 2 * k)), some (.ref (56 + 2 * j))]) (st' := [.ref (56 + 2 * j)]) (h' := kv_wd g w) rfl ?_
        refine kx_st 1 (pc' := 30) (L' := [some (.ref 0), some (.int (nI k)), some (.int b), some (.int (nI j)), some (.int e), some (.int f), some (.ref (56 + 2 * k)), some (.ref (56 + 2 * j))]) (st' := []) (h' := kv_wd g w) rfl ?_
        refine kx_st 1 (pc' := 32) (L' := [some (.ref 0), some (.int (nI k)), some (.int b), some (.int (nI j)), some (.int e), some (.int f), some (.ref (56 + 2 * k)), some (.ref (56 + 2 * j))]) (st' := [.ref (56 + 2 * k)]) (h' := kv_wd g w) rfl ?_
        refine kx_gf (i := 254) (k := 0) (v := .int (g (56 + 2 * k) 0)) rfl rfl (by have := (kv_st_h hk4).1; omega) ((kv_st_h hk4).2.1 _ _) rfl ?_
        refine kx_bc (t := 46) rfl rfl (fun (h35 : g (56 + 2 * k) 0 = 0) => ?_) (fun (h35 : ¬ (g (56 + 2 * k) 0 = 0)) => ?_)
        · refine kx_st 2 (pc' := 48) (L' := [some (.ref 0), some (.int (nI k)), some (.int b), some (.int (nI j)), some (.int e), some (.int f), some (.ref (56 + 2 * k)), some (.ref (56 + 2 * j))]) (st' := [.int 2, .ref 0]) (h' := kv_wd g w) rfl ?_
          refine kx_call (z := 123) (as := [.ref 0, .int 2]) (rest := []) (v := some (.int (-1000000000 - nI 2))) (h1 := kv_wd (kv_up g 64 2 (g 64 2 + 1)) w) rfl (ev_error (d := 898) 2 (by decide) (by decide)) ?_
          refine kx_st 0 (pc' := 51) (L' := [some (.ref 0), some (.int (nI k)), some (.int b), some (.int (nI j)), some (.int e), some (.int f), some (.ref (56 + 2 * k)), some (.ref (56 + 2 * j))]) (st' := [.int (-1000000000 - nI 2)]) (h' := kv_wd (kv_up g 64 2 (g 64 2 + 1)) w) rfl ?_
          refine kx_ret (v := some (.int (-1000000000 - nI 2))) rfl ?_
          refine ⟨_, _, _, rfl, rfl, ?_⟩
          refine kx_st 0 (pc' := 0) (L' := [some (.ref 65), some (.int (nI k)), some (.int b), some (.int (nI j)), some (.int e), some (.int f), none]) (st' := []) (h' := kv_wd (kv_up g 64 2 (g 64 2 + 1)) w) rfl ?_
          refine kx_st 1 (pc' := 1) (L' := [some (.ref 65), some (.int (nI k)), some (.int b), some (.int (nI j)), some (.int e), some (.int f), none]) (st' := [.int (nI k)]) (h' := kv_wd (kv_up g 64 2 (g 64 2 + 1)) w) rfl ?_
          refine kx_call (z := 200) (as := [.int (nI k)]) (rest := []) (v := some (.int (kx_b (0 ≤ nI k ∧ nI k ≤ 3)))) (h1 := kv_wd (kv_up g 64 2 (g 64 2 + 1)) w) rfl (ev_isSheet (d := 897) (nI k)) ?_
          refine kx_st 0 (pc' := 4) (L' := [some (.ref 65), some (.int (nI k)), some (.int b), some (.int (nI j)), some (.int e), some (.int f), none]) (st' := [.int (kx_b (0 ≤ nI k ∧ nI k ≤ 3))]) (h' := kv_wd (kv_up g 64 2 (g 64 2 + 1)) w) rfl ?_
          refine kx_be (t := 14) rfl rfl (fun (m4 : ¬ (0 ≤ nI k ∧ nI k ≤ 3)) => ?_) (fun (m4 : (0 ≤ nI k ∧ nI k ≤ 3)) => ?_)
          · exact absurd hA m4
          · refine kx_st 0 (pc' := 7) (L' := [some (.ref 65), some (.int (nI k)), some (.int b), some (.int (nI j)), some (.int e), some (.int f), none]) (st' := []) (h' := kv_wd (kv_up g 64 2 (g 64 2 + 1)) w) rfl ?_
            refine kx_st 1 (pc' := 8) (L' := [some (.ref 65), some (.int (nI k)), some (.int b), some (.int (nI j)), some (.int e), some (.int f), none]) (st' := [.int (nI j)]) (h' := kv_wd (kv_up g 64 2 (g 64 2 + 1)) w) rfl ?_
            refine kx_call (z := 200) (as := [.int (nI j)]) (rest := []) (v := some (.int (kx_b (0 ≤ nI j ∧ nI j ≤ 3)))) (h1 := kv_wd (kv_up g 64 2 (g 64 2 + 1)) w) rfl (ev_isSheet (d := 897) (nI j)) ?_
            refine kx_st 0 (pc' := 11) (L' := [some (.ref 65), some (.int (nI k)), some (.int b), some (.int (nI j)), some (.int e), some (.int f), none]) (st' := [.int (kx_b (0 ≤ nI j ∧ nI j ≤ 3))]) (h' := kv_wd (kv_up g 64 2 (g 64 2 + 1)) w) rfl ?_
            refine kx_bn (t := 21) rfl rfl (fun (m11 : (0 ≤ nI j ∧ nI j ≤ 3)) => ?_) (fun (m11 : ¬ (0 ≤ nI j ∧ nI j ≤ 3)) => ?_)
            · refine kx_st 3 (pc' := 26) (L' := [some (.ref 65), some (.int (nI k)), some (.int b), some (.int (nI j)), some (.int e), some (.int f), none]) (st' := [.int (nI k), .ref 71]) (h' := kv_wd (kv_up g 64 2 (g 64 2 + 1)) w) rfl ?_
              refine kx_ia (k := k) rfl rfl (by decide) rfl (by omega) (by decide) ?_
              refine kx_bc (t := 39) rfl rfl (fun (m27 : (kv_up g 64 2 (g 64 2 + 1)) 71 k = 0) => ?_) (fun (m27 : ¬ ((kv_up g 64 2 (g 64 2 + 1)) 71 k = 0)) => ?_)
              · refine kx_st 2 (pc' := 42) (L' := [some (.ref 65), some (.int (nI k)), some (.int b), some (.int (nI j)), some (.int e), some (.int f), none]) (st' := [.int (-1000000002), .ref 65]) (h' := kv_wd (kv_up g 64 2 (g 64 2 + 1)) w) rfl ?_
                refine kx_call (z := 131) (as := [.ref 65, .int (-1000000002)]) (rest := []) (v := some (.int (-1000000002))) (h1 := kv_wd (kv_up (kv_up g 64 2 (g 64 2 + 1)) 70 2 ((kv_up g 64 2 (g 64 2 + 1)) 70 2 + 1)) w) rfl (ev_errs (d := 898) (-1000000002) 2 (by decide) (by decide)) ?_
                refine kx_st 0 (pc' := 45) (L' := [some (.ref 65), some (.int (nI k)), some (.int b), some (.int (nI j)), some (.int e), some (.int f), none]) (st' := [.int (-1000000002)]) (h' := kv_wd (kv_up (kv_up g 64 2 (g 64 2 + 1)) 70 2 ((kv_up g 64 2 (g 64 2 + 1)) 70 2 + 1)) w) rfl ?_
                refine kx_ret (v := some (.int (-1000000002))) rfl ?_
                exact ⟨rfl, _, _, rfl, kx_Rl_e hR⟩
              · exact absurd hb m27
            · exact absurd hC m11
        · exact absurd (s1.trans hb) h35
      · by_cases hb2 : g 71 j = 0
        · refine kx_two (by decide) (Nat.le_of_ble_eq_true rfl) (by decide) (Nat.le_of_ble_eq_true rfl) ?_
          refine kx_st 0 (pc' := 0) (L' := [some (.ref 0), some (.int (nI k)), some (.int b), some (.int (nI j)), some (.int e), some (.int f), none, none]) (st' := []) (h' := kv_wd g w) rfl ?_
          refine kx_st 2 (pc' := 2) (L' := [some (.ref 0), some (.int (nI k)), some (.int b), some (.int (nI j)), some (.int e), some (.int f), none, none]) (st' := [.int (nI k), .ref 0]) (h' := kv_wd g w) rfl ?_
          refine kx_call (z := 127) (as := [.ref 0, .int (nI k)]) (rest := []) (v := some (.ref (56 + 2 * k))) (h1 := kv_wd g w) rfl (ev_sheetAt (d := 898) q k hk4) ?_
          refine kx_st 0 (pc' := 5) (L' := [some (.ref 0), some (.int (nI k)), some (.int b), some (.int (nI j)), some (.int e), some (.int f), none, none]) (st' := [.ref (56 + 2 * k)]) (h' := kv_wd g w) rfl ?_
          refine kx_st 3 (pc' := 9) (L' := [some (.ref 0), some (.int (nI k)), some (.int b), some (.int (nI j)), some (.int e), some (.int f), some (.ref (56 + 2 * k)), none]) (st' := [.int (nI j), .ref 0]) (h' := kv_wd g w) rfl ?_
          refine kx_call (z := 127) (as := [.ref 0, .int (nI j)]) (rest := []) (v := some (.ref (56 + 2 * j))) (h1 := kv_wd g w) rfl (ev_sheetAt (d := 898) q j hj4) ?_
          refine kx_st 0 (pc' := 12) (L' := [some (.ref 0), some (.int (nI k)), some (.int b), some (.int (nI j)), some (.int e), some (.int f), some (.ref (56 + 2 * k)), none]) (st' := [.ref (56 + 2 * j)]) (h' := kv_wd g w) rfl ?_
          refine kx_st 2 (pc' := 16) (L' := [some (.ref 0), some (.int (nI k)), some (.int b), some (.int (nI j)), some (.int e), some (.int f), some (.ref (56 + 2 * k)), some (.ref (56 + 2 * j))]) (st' := [.ref (56 + 2 * k)]) (h' := kv_wd g w) rfl ?_
          refine kx_st 1 (pc' := 19) (L' := [some (.ref 0), some (.int (nI k)), some (.int b), some (.int (nI j)), some (.int e), some (.int f), some (.ref (56 + 2 * k)), some (.ref (56 + 2 * j))]) (st' := []) (h' := kv_wd g w) rfl ?_
          refine kx_st 1 (pc' := 21) (L' := [some (.ref 0), some (.int (nI k)), some (.int b), some (.int (nI j)), some (.int e), some (.int f), some (.ref (56 + 2 * k)), some (.ref (56 + 2 * j))]) (st' := [.ref (56 + 2 * j)]) (h' := kv_wd g w) rfl ?_
          refine kx_st 1 (pc' := 30) (L' := [some (.ref 0), some (.int (nI k)), some (.int b), some (.int (nI j)), some (.int e), some (.int f), some (.ref (56 + 2 * k)), some (.ref (56 + 2 * j))]) (st' := []) (h' := kv_wd g w) rfl ?_
          refine kx_st 1 (pc' := 32) (L' := [some (.ref 0), some (.int (nI k)), some (.int b), some (.int (nI j)), some (.int e), some (.int f), some (.ref (56 + 2 * k)), some (.ref (56 + 2 * j))]) (st' := [.ref (56 + 2 * k)]) (h' := kv_wd g w) rfl ?_
          refine kx_gf (i := 254) (k := 0) (v := .int (g (56 + 2 * k) 0)) rfl rfl (by have := (kv_st_h hk4).1; omega) ((kv_st_h hk4).2.1 _ _) rfl ?_
          refine kx_bc (t := 46) rfl rfl (fun (h35 : g (56 + 2 * k) 0 = 0) => ?_) (fun (h35 : ¬ (g (56 + 2 * k) 0 = 0)) => ?_)
          · exact absurd (s1.symm.trans h35) hb
          · refine kx_st 0 (pc' := 38) (L' := [some (.ref 0), some (.int (nI k)), some (.int b), some (.int (nI j)), some (.int e), some (.int f), some (.ref (56 + 2 * k)), some (.ref (56 + 2 * j))]) (st' := []) (h' := kv_wd g w) rfl ?_
            refine kx_st 1 (pc' := 40) (L' := [some (.ref 0), some (.int (nI k)), some (.int b), some (.int (nI j)), some (.int e), some (.int f), some (.ref (56 + 2 * k)), some (.ref (56 + 2 * j))]) (st' := [.ref (56 + 2 * j)]) (h' := kv_wd g w) rfl ?_
            refine kx_gf (i := 254) (k := 0) (v := .int (g (56 + 2 * j) 0)) rfl rfl (by have := (kv_st_h hj4).1; omega) ((kv_st_h hj4).2.1 _ _) rfl ?_
            refine kx_bc (t := 52) rfl rfl (fun (h43 : ¬ g (56 + 2 * j) 0 = 0) => ?_) (fun (h43 : ¬ (¬ g (56 + 2 * j) 0 = 0)) => ?_)
            · exact absurd (u1.trans hb2) h43
            · refine kx_st 0 (pc' := 46) (L' := [some (.ref 0), some (.int (nI k)), some (.int b), some (.int (nI j)), some (.int e), some (.int f), some (.ref (56 + 2 * k)), some (.ref (56 + 2 * j))]) (st' := []) (h' := kv_wd g w) rfl ?_
              refine kx_st 2 (pc' := 48) (L' := [some (.ref 0), some (.int (nI k)), some (.int b), some (.int (nI j)), some (.int e), some (.int f), some (.ref (56 + 2 * k)), some (.ref (56 + 2 * j))]) (st' := [.int 2, .ref 0]) (h' := kv_wd g w) rfl ?_
              refine kx_call (z := 123) (as := [.ref 0, .int 2]) (rest := []) (v := some (.int (-1000000000 - nI 2))) (h1 := kv_wd (kv_up g 64 2 (g 64 2 + 1)) w) rfl (ev_error (d := 898) 2 (by decide) (by decide)) ?_
              refine kx_st 0 (pc' := 51) (L' := [some (.ref 0), some (.int (nI k)), some (.int b), some (.int (nI j)), some (.int e), some (.int f), some (.ref (56 + 2 * k)), some (.ref (56 + 2 * j))]) (st' := [.int (-1000000000 - nI 2)]) (h' := kv_wd (kv_up g 64 2 (g 64 2 + 1)) w) rfl ?_
              refine kx_ret (v := some (.int (-1000000000 - nI 2))) rfl ?_
              refine ⟨_, _, _, rfl, rfl, ?_⟩
              refine kx_st 0 (pc' := 0) (L' := [some (.ref 65), some (.int (nI k)), some (.int b), some (.int (nI j)), some (.int e), some (.int f), none]) (st' := []) (h' := kv_wd (kv_up g 64 2 (g 64 2 + 1)) w) rfl ?_
              refine kx_st 1 (pc' := 1) (L' := [some (.ref 65), some (.int (nI k)), some (.int b), some (.int (nI j)), some (.int e), some (.int f), none]) (st' := [.int (nI k)]) (h' := kv_wd (kv_up g 64 2 (g 64 2 + 1)) w) rfl ?_
              refine kx_call (z := 200) (as := [.int (nI k)]) (rest := []) (v := some (.int (kx_b (0 ≤ nI k ∧ nI k ≤ 3)))) (h1 := kv_wd (kv_up g 64 2 (g 64 2 + 1)) w) rfl (ev_isSheet (d := 897) (nI k)) ?_
              refine kx_st 0 (pc' := 4) (L' := [some (.ref 65), some (.int (nI k)), some (.int b), some (.int (nI j)), some (.int e), some (.int f), none]) (st' := [.int (kx_b (0 ≤ nI k ∧ nI k ≤ 3))]) (h' := kv_wd (kv_up g 64 2 (g 64 2 + 1)) w) rfl ?_
              refine kx_be (t := 14) rfl rfl (fun (m4 : ¬ (0 ≤ nI k ∧ nI k ≤ 3)) => ?_) (fun (m4 : (0 ≤ nI k ∧ nI k ≤ 3)) => ?_)
              · exact absurd hA m4
              · refine kx_st 0 (pc' := 7) (L' := [some (.ref 65), some (.int (nI k)), some (.int b), some (.int (nI j)), some (.int e), some (.int f), none]) (st' := []) (h' := kv_wd (kv_up g 64 2 (g 64 2 + 1)) w) rfl ?_
                refine kx_st 1 (pc' := 8) (L' := [some (.ref 65), some (.int (nI k)), some (.int b), some (.int (nI j)), some (.int e), some (.int f), none]) (st' := [.int (nI j)]) (h' := kv_wd (kv_up g 64 2 (g 64 2 + 1)) w) rfl ?_
                refine kx_call (z := 200) (as := [.int (nI j)]) (rest := []) (v := some (.int (kx_b (0 ≤ nI j ∧ nI j ≤ 3)))) (h1 := kv_wd (kv_up g 64 2 (g 64 2 + 1)) w) rfl (ev_isSheet (d := 897) (nI j)) ?_
                refine kx_st 0 (pc' := 11) (L' := [some (.ref 65), some (.int (nI k)), some (.int b), some (.int (nI j)), some (.int e), some (.int f), none]) (st' := [.int (kx_b (0 ≤ nI j ∧ nI j ≤ 3))]) (h' := kv_wd (kv_up g 64 2 (g 64 2 + 1)) w) rfl ?_
                refine kx_bn (t := 21) rfl rfl (fun (m11 : (0 ≤ nI j ∧ nI j ≤ 3)) => ?_) (fun (m11 : ¬ (0 ≤ nI j ∧ nI j ≤ 3)) => ?_)
                · refine kx_st 3 (pc' := 26) (L' := [some (.ref 65), some (.int (nI k)), some (.int b), some (.int (nI j)), some (.int e), some (.int f), none]) (st' := [.int (nI k), .ref 71]) (h' := kv_wd (kv_up g 64 2 (g 64 2 + 1)) w) rfl ?_
                  refine kx_ia (k := k) rfl rfl (by decide) rfl (by omega) (by decide) ?_
                  refine kx_bc (t := 39) rfl rfl (fun (m27 : (kv_up g 64 2 (g 64 2 + 1)) 71 k = 0) => ?_) (fun (m27 : ¬ ((kv_up g 64 2 (g 64 2 + 1)) 71 k = 0)) => ?_)
                  · exact absurd m27 hb
                  · refine kx_st 0 (pc' := 30) (L' := [some (.ref 65), some (.int (nI k)), some (.int b), some (.int (nI j)), some (.int e), some (.int f), none]) (st' := []) (h' := kv_wd (kv_up g 64 2 (g 64 2 + 1)) w) rfl ?_
                    refine kx_st 3 (pc' := 35) (L' := [some (.ref 65), some (.int (nI k)), some (.int b), some (.int (nI j)), some (.int e), some (.int f), none]) (st' := [.int (nI j), .ref 71]) (h' := kv_wd (kv_up g 64 2 (g 64 2 + 1)) w) rfl ?_
                    refine kx_ia (k := j) rfl rfl (by decide) rfl (by omega) (by decide) ?_
                    refine kx_bc (t := 46) rfl rfl (fun (m36 : ¬ (kv_up g 64 2 (g 64 2 + 1)) 71 j = 0) => ?_) (fun (m36 : ¬ (¬ (kv_up g 64 2 (g 64 2 + 1)) 71 j = 0)) => ?_)
                    · exact absurd hb2 m36
                    · refine kx_st 0 (pc' := 39) (L' := [some (.ref 65), some (.int (nI k)), some (.int b), some (.int (nI j)), some (.int e), some (.int f), none]) (st' := []) (h' := kv_wd (kv_up g 64 2 (g 64 2 + 1)) w) rfl ?_
                      refine kx_st 2 (pc' := 42) (L' := [some (.ref 65), some (.int (nI k)), some (.int b), some (.int (nI j)), some (.int e), some (.int f), none]) (st' := [.int (-1000000002), .ref 65]) (h' := kv_wd (kv_up g 64 2 (g 64 2 + 1)) w) rfl ?_
                      refine kx_call (z := 131) (as := [.ref 65, .int (-1000000002)]) (rest := []) (v := some (.int (-1000000002))) (h1 := kv_wd (kv_up (kv_up g 64 2 (g 64 2 + 1)) 70 2 ((kv_up g 64 2 (g 64 2 + 1)) 70 2 + 1)) w) rfl (ev_errs (d := 898) (-1000000002) 2 (by decide) (by decide)) ?_
                      refine kx_st 0 (pc' := 45) (L' := [some (.ref 65), some (.int (nI k)), some (.int b), some (.int (nI j)), some (.int e), some (.int f), none]) (st' := [.int (-1000000002)]) (h' := kv_wd (kv_up (kv_up g 64 2 (g 64 2 + 1)) 70 2 ((kv_up g 64 2 (g 64 2 + 1)) 70 2 + 1)) w) rfl ?_
                      refine kx_ret (v := some (.int (-1000000002))) rfl ?_
                      exact ⟨rfl, _, _, rfl, kx_Rl_e hR⟩
                · exact absurd hC m11
        · by_cases hq : g 71 k = g 71 j
          · by_cases p1 : ¬ f < 0 ∧ ¬ b < 0 ∧ ¬ nI n < f ∧ ¬ nI n - f < b
            · by_cases p2 : ¬ f < 0 ∧ ¬ e < 0 ∧ ¬ nI y < f ∧ ¬ nI y - f < e
              · obtain ⟨N, B, rfl, rfl, hBN⟩ := kx_part n40 p1
                obtain ⟨N2, J, hN2, rfl, hJN⟩ := kx_part y40 p2
                have eN : N2 = N := (kx_nI_inj (by omega) (by omega) hN2).symm
                subst eN
                refine kx_two (by decide) (Nat.le_of_ble_eq_true rfl) (by decide) (Nat.le_of_ble_eq_true rfl) ?_
                refine kx_st 0 (pc' := 0) (L' := [some (.ref 0), some (.int (nI k)), some (.int (nI B)), some (.int (nI j)), some (.int (nI J)), some (.int (nI N2)), none, none]) (st' := []) (h' := kv_wd g w) rfl ?_
                refine kx_st 2 (pc' := 2) (L' := [some (.ref 0), some (.int (nI k)), some (.int (nI B)), some (.int (nI j)), some (.int (nI J)), some (.int (nI N2)), none, none]) (st' := [.int (nI k), .ref 0]) (h' := kv_wd g w) rfl ?_
                refine kx_call (z := 127) (as := [.ref 0, .int (nI k)]) (rest := []) (v := some (.ref (56 + 2 * k))) (h1 := kv_wd g w) rfl (ev_sheetAt (d := 898) q k hk4) ?_
                refine kx_st 0 (pc' := 5) (L' := [some (.ref 0), some (.int (nI k)), some (.int (nI B)), some (.int (nI j)), some (.int (nI J)), some (.int (nI N2)), none, none]) (st' := [.ref (56 + 2 * k)]) (h' := kv_wd g w) rfl ?_
                refine kx_st 3 (pc' := 9) (L' := [some (.ref 0), some (.int (nI k)), some (.int (nI B)), some (.int (nI j)), some (.int (nI J)), some (.int (nI N2)), some (.ref (56 + 2 * k)), none]) (st' := [.int (nI j), .ref 0]) (h' := kv_wd g w) rfl ?_
                refine kx_call (z := 127) (as := [.ref 0, .int (nI j)]) (rest := []) (v := some (.ref (56 + 2 * j))) (h1 := kv_wd g w) rfl (ev_sheetAt (d := 898) q j hj4) ?_
                refine kx_st 0 (pc' := 12) (L' := [some (.ref 0), some (.int (nI k)), some (.int (nI B)), some (.int (nI j)), some (.int (nI J)), some (.int (nI N2)), some (.ref (56 + 2 * k)), none]) (st' := [.ref (56 + 2 * j)]) (h' := kv_wd g w) rfl ?_
                refine kx_st 2 (pc' := 16) (L' := [some (.ref 0), some (.int (nI k)), some (.int (nI B)), some (.int (nI j)), some (.int (nI J)), some (.int (nI N2)), some (.ref (56 + 2 * k)), some (.ref (56 + 2 * j))]) (st' := [.ref (56 + 2 * k)]) (h' := kv_wd g w) rfl ?_
                refine kx_st 1 (pc' := 19) (L' := [some (.ref 0), some (.int (nI k)), some (.int (nI B)), some (.int (nI j)), some (.int (nI J)), some (.int (nI N2)), some (.ref (56 + 2 * k)), some (.ref (56 + 2 * j))]) (st' := []) (h' := kv_wd g w) rfl ?_
                refine kx_st 1 (pc' := 21) (L' := [some (.ref 0), some (.int (nI k)), some (.int (nI B)), some (.int (nI j)), some (.int (nI J)), some (.int (nI N2)), some (.ref (56 + 2 * k)), some (.ref (56 + 2 * j))]) (st' := [.ref (56 + 2 * j)]) (h' := kv_wd g w) rfl ?_
                refine kx_st 1 (pc' := 30) (L' := [some (.ref 0), some (.int (nI k)), some (.int (nI B)), some (.int (nI j)), some (.int (nI J)), some (.int (nI N2)), some (.ref (56 + 2 * k)), some (.ref (56 + 2 * j))]) (st' := []) (h' := kv_wd g w) rfl ?_
                refine kx_st 1 (pc' := 32) (L' := [some (.ref 0), some (.int (nI k)), some (.int (nI B)), some (.int (nI j)), some (.int (nI J)), some (.int (nI N2)), some (.ref (56 + 2 * k)), some (.ref (56 + 2 * j))]) (st' := [.ref (56 + 2 * k)]) (h' := kv_wd g w) rfl ?_
                refine kx_gf (i := 254) (k := 0) (v := .int (g (56 + 2 * k) 0)) rfl rfl (by have := (kv_st_h hk4).1; omega) ((kv_st_h hk4).2.1 _ _) rfl ?_
                refine kx_bc (t := 46) rfl rfl (fun (h35 : g (56 + 2 * k) 0 = 0) => ?_) (fun (h35 : ¬ (g (56 + 2 * k) 0 = 0)) => ?_)
                · exact absurd (s1.symm.trans h35) hb
                · refine kx_st 0 (pc' := 38) (L' := [some (.ref 0), some (.int (nI k)), some (.int (nI B)), some (.int (nI j)), some (.int (nI J)), some (.int (nI N2)), some (.ref (56 + 2 * k)), some (.ref (56 + 2 * j))]) (st' := []) (h' := kv_wd g w) rfl ?_
                  refine kx_st 1 (pc' := 40) (L' := [some (.ref 0), some (.int (nI k)), some (.int (nI B)), some (.int (nI j)), some (.int (nI J)), some (.int (nI N2)), some (.ref (56 + 2 * k)), some (.ref (56 + 2 * j))]) (st' := [.ref (56 + 2 * j)]) (h' := kv_wd g w) rfl ?_
                  refine kx_gf (i := 254) (k := 0) (v := .int (g (56 + 2 * j) 0)) rfl rfl (by have := (kv_st_h hj4).1; omega) ((kv_st_h hj4).2.1 _ _) rfl ?_
                  refine kx_bc (t := 52) rfl rfl (fun (h43 : ¬ g (56 + 2 * j) 0 = 0) => ?_) (fun (h43 : ¬ (¬ g (56 + 2 * j) 0 = 0)) => ?_)
                  · refine kx_st 1 (pc' := 54) (L' := [some (.ref 0), some (.int (nI k)), some (.int (nI B)), some (.int (nI j)), some (.int (nI J)), some (.int (nI N2)), some (.ref (56 + 2 * k)), some (.ref (56 + 2 * j))]) (st' := [.ref (56 + 2 * k)]) (h' := kv_wd g w) rfl ?_
                    refine kx_gf (i := 254) (k := 0) (v := .int (g (56 + 2 * k) 0)) rfl rfl (by have := (kv_st_h hk4).1; omega) ((kv_st_h hk4).2.1 _ _) rfl ?_
                    refine kx_st 1 (pc' := 59) (L' := [some (.ref 0), some (.int (nI k)), some (.int (nI B)), some (.int (nI j)), some (.int (nI J)), some (.int (nI N2)), some (.ref (56 + 2 * k)), some (.ref (56 + 2 * j))]) (st' := [.ref (56 + 2 * j), .int (g (56 + 2 * k) 0)]) (h' := kv_wd g w) rfl ?_
                    refine kx_gf (i := 254) (k := 0) (v := .int (g (56 + 2 * j) 0)) rfl rfl (by have := (kv_st_h hj4).1; omega) ((kv_st_h hj4).2.1 _ _) rfl ?_
                    refine kx_bi (t := 71) rfl rfl (fun (h62 : g (56 + 2 * k) 0 = g (56 + 2 * j) 0) => ?_) (fun (h62 : ¬ (g (56 + 2 * k) 0 = g (56 + 2 * j) 0)) => ?_)
                    · refine kx_st 3 (pc' := 76) (L' := [some (.ref 0), some (.int (nI k)), some (.int (nI B)), some (.int (nI j)), some (.int (nI J)), some (.int (nI N2)), some (.ref (56 + 2 * k)), some (.ref (56 + 2 * j))]) (st' := [.int (nI N2), .int (nI B), .ref (56 + 2 * k)]) (h' := kv_wd g w) rfl ?_
                      refine kx_call (z := 58) (as := [.ref (56 + 2 * k), .int (nI B), .int (nI N2)]) (rest := []) (v := some (.int (kx_b (¬ nI N2 < 0 ∧ ¬ nI B < 0 ∧ ¬ g (56 + 2 * k) 1 < nI N2 ∧ ¬ g (56 + 2 * k) 1 - nI N2 < nI B)))) (h1 := kv_wd g w) (kx_cv (b := 56 + 2 * k) (A := [.int (nI B), .int (nI N2)]) (rest := []) rfl rfl rfl rfl (Nat.le_of_ble_eq_true rfl) (by have := (kv_st_h hk4).1; omega) ((kv_st_h hk4).2.1 _ _)) (ev_hasPart (d := 898) k hk4 (nI B) (nI N2)) ?_
                      refine kx_st 0 (pc' := 79) (L' := [some (.ref 0), some (.int (nI k)), some (.int (nI B)), some (.int (nI j)), some (.int (nI J)), some (.int (nI N2)), some (.ref (56 + 2 * k)), some (.ref (56 + 2 * j))]) (st' := [.int (kx_b (¬ nI N2 < 0 ∧ ¬ nI B < 0 ∧ ¬ g (56 + 2 * k) 1 < nI N2 ∧ ¬ g (56 + 2 * k) 1 - nI N2 < nI B))]) (h' := kv_wd g w) rfl ?_
                      refine kx_be (t := 94) rfl rfl (fun (h79 : ¬ (¬ nI N2 < 0 ∧ ¬ nI B < 0 ∧ ¬ g (56 + 2 * k) 1 < nI N2 ∧ ¬ g (56 + 2 * k) 1 - nI N2 < nI B)) => ?_) (fun (h79 : (¬ nI N2 < 0 ∧ ¬ nI B < 0 ∧ ¬ g (56 + 2 * k) 1 < nI N2 ∧ ¬ g (56 + 2 * k) 1 - nI N2 < nI B)) => ?_)
                      · exact absurd (by rw [s2, n2]; exact p1) h79
                      · refine kx_st 0 (pc' := 82) (L' := [some (.ref 0), some (.int (nI k)), some (.int (nI B)), some (.int (nI j)), some (.int (nI J)), some (.int (nI N2)), some (.ref (56 + 2 * k)), some (.ref (56 + 2 * j))]) (st' := []) (h' := kv_wd g w) rfl ?_
                        refine kx_st 3 (pc' := 88) (L' := [some (.ref 0), some (.int (nI k)), some (.int (nI B)), some (.int (nI j)), some (.int (nI J)), some (.int (nI N2)), some (.ref (56 + 2 * k)), some (.ref (56 + 2 * j))]) (st' := [.int (nI N2), .int (nI J), .ref (56 + 2 * j)]) (h' := kv_wd g w) rfl ?_
                        refine kx_call (z := 58) (as := [.ref (56 + 2 * j), .int (nI J), .int (nI N2)]) (rest := []) (v := some (.int (kx_b (¬ nI N2 < 0 ∧ ¬ nI J < 0 ∧ ¬ g (56 + 2 * j) 1 < nI N2 ∧ ¬ g (56 + 2 * j) 1 - nI N2 < nI J)))) (h1 := kv_wd g w) (kx_cv (b := 56 + 2 * j) (A := [.int (nI J), .int (nI N2)]) (rest := []) rfl rfl rfl rfl (Nat.le_of_ble_eq_true rfl) (by have := (kv_st_h hj4).1; omega) ((kv_st_h hj4).2.1 _ _)) (ev_hasPart (d := 898) j hj4 (nI J) (nI N2)) ?_
                        refine kx_st 0 (pc' := 91) (L' := [some (.ref 0), some (.int (nI k)), some (.int (nI B)), some (.int (nI j)), some (.int (nI J)), some (.int (nI N2)), some (.ref (56 + 2 * k)), some (.ref (56 + 2 * j))]) (st' := [.int (kx_b (¬ nI N2 < 0 ∧ ¬ nI J < 0 ∧ ¬ g (56 + 2 * j) 1 < nI N2 ∧ ¬ g (56 + 2 * j) 1 - nI N2 < nI J))]) (h' := kv_wd g w) rfl ?_
                        refine kx_bn (t := 100) rfl rfl (fun (h91 : (¬ nI N2 < 0 ∧ ¬ nI J < 0 ∧ ¬ g (56 + 2 * j) 1 < nI N2 ∧ ¬ g (56 + 2 * j) 1 - nI N2 < nI J)) => ?_) (fun (h91 : ¬ (¬ nI N2 < 0 ∧ ¬ nI J < 0 ∧ ¬ g (56 + 2 * j) 1 < nI N2 ∧ ¬ g (56 + 2 * j) 1 - nI N2 < nI J)) => ?_)
                        · refine kx_st 1 (pc' := 102) (L' := [some (.ref 0), some (.int (nI k)), some (.int (nI B)), some (.int (nI j)), some (.int (nI J)), some (.int (nI N2)), some (.ref (56 + 2 * k)), some (.ref (56 + 2 * j))]) (st' := [.ref (56 + 2 * k)]) (h' := kv_wd g w) rfl ?_
                          refine kx_gf (i := 263) (k := 2) (v := .ref (57 + 2 * k)) rfl rfl (by have := (kv_st_h hk4).1; omega) ((kv_st_h hk4).2.1 _ _) rfl ?_
                          refine kx_st 2 (pc' := 108) (L' := [some (.ref 0), some (.int (nI k)), some (.int (nI B)), some (.int (nI j)), some (.int (nI J)), some (.int (nI N2)), some (.ref (56 + 2 * k)), some (.ref (56 + 2 * j))]) (st' := [.ref (56 + 2 * j), .int (nI B), .ref (57 + 2 * k)]) (h' := kv_wd g w) rfl ?_
                          refine kx_gf (i := 263) (k := 2) (v := .ref (57 + 2 * j)) rfl rfl (by have := (kv_st_h hj4).1; omega) ((kv_st_h hj4).2.1 _ _) rfl ?_
                          refine kx_st 2 (pc' := 115) (L' := [some (.ref 0), some (.int (nI k)), some (.int (nI B)), some (.int (nI j)), some (.int (nI J)), some (.int (nI N2)), some (.ref (56 + 2 * k)), some (.ref (56 + 2 * j))]) (st' := [.int (nI N2), .int (nI J), .ref (57 + 2 * j), .int (nI B), .ref (57 + 2 * k)]) (h' := kv_wd g w) rfl ?_
                          refine kx_cp (sp := B) (dp := J) (n := N2) rfl rfl rfl rfl (kv_st_h hk4).2.2 (kv_st_h hj4).2.2 (kv_st_h hk4).1 (kv_st_h hj4).1 rfl rfl rfl (by omega) (by omega) (by decide) (by decide) (Nat.le_of_ble_eq_true rfl) ?_
                          refine kx_st 1 (pc' := 120) (L' := [some (.ref 0), some (.int (nI k)), some (.int (nI B)), some (.int (nI j)), some (.int (nI J)), some (.int (nI N2)), some (.ref (56 + 2 * k)), some (.ref (56 + 2 * j))]) (st' := [.int (nI N2)]) (h' := kv_wd (kv_uf g (57 + 2 * j) (va_cpy (g (57 + 2 * k)) (g (57 + 2 * j)) B J N2)) w) rfl ?_
                          refine kx_ret (v := some (.int (nI N2))) rfl ?_
                          refine ⟨_, _, _, rfl, rfl, ?_⟩
                          refine kx_st 0 (pc' := 0) (L' := [some (.ref 65), some (.int (nI k)), some (.int (nI B)), some (.int (nI j)), some (.int (nI J)), some (.int (nI N2)), none]) (st' := []) (h' := kv_wd (kv_uf g (57 + 2 * j) (va_cpy (g (57 + 2 * k)) (g (57 + 2 * j)) B J N2)) w) rfl ?_
                          refine kx_st 1 (pc' := 1) (L' := [some (.ref 65), some (.int (nI k)), some (.int (nI B)), some (.int (nI j)), some (.int (nI J)), some (.int (nI N2)), none]) (st' := [.int (nI k)]) (h' := kv_wd (kv_uf g (57 + 2 * j) (va_cpy (g (57 + 2 * k)) (g (57 + 2 * j)) B J N2)) w) rfl ?_
                          refine kx_call (z := 200) (as := [.int (nI k)]) (rest := []) (v := some (.int (kx_b (0 ≤ nI k ∧ nI k ≤ 3)))) (h1 := kv_wd (kv_uf g (57 + 2 * j) (va_cpy (g (57 + 2 * k)) (g (57 + 2 * j)) B J N2)) w) rfl (ev_isSheet (d := 897) (nI k)) ?_
                          refine kx_st 0 (pc' := 4) (L' := [some (.ref 65), some (.int (nI k)), some (.int (nI B)), some (.int (nI j)), some (.int (nI J)), some (.int (nI N2)), none]) (st' := [.int (kx_b (0 ≤ nI k ∧ nI k ≤ 3))]) (h' := kv_wd (kv_uf g (57 + 2 * j) (va_cpy (g (57 + 2 * k)) (g (57 + 2 * j)) B J N2)) w) rfl ?_
                          refine kx_be (t := 14) rfl rfl (fun (m4 : ¬ (0 ≤ nI k ∧ nI k ≤ 3)) => ?_) (fun (m4 : (0 ≤ nI k ∧ nI k ≤ 3)) => ?_)
                          · exact absurd hA m4
                          · refine kx_st 0 (pc' := 7) (L' := [some (.ref 65), some (.int (nI k)), some (.int (nI B)), some (.int (nI j)), some (.int (nI J)), some (.int (nI N2)), none]) (st' := []) (h' := kv_wd (kv_uf g (57 + 2 * j) (va_cpy (g (57 + 2 * k)) (g (57 + 2 * j)) B J N2)) w) rfl ?_
                            refine kx_st 1 (pc' := 8) (L' := [some (.ref 65), some (.int (nI k)), some (.int (nI B)), some (.int (nI j)), some (.int (nI J)), some (.int (nI N2)), none]) (st' := [.int (nI j)]) (h' := kv_wd (kv_uf g (57 + 2 * j) (va_cpy (g (57 + 2 * k)) (g (57 + 2 * j)) B J N2)) w) rfl ?_
                            refine kx_call (z := 200) (as := [.int (nI j)]) (rest := []) (v := some (.int (kx_b (0 ≤ nI j ∧ nI j ≤ 3)))) (h1 := kv_wd (kv_uf g (57 + 2 * j) (va_cpy (g (57 + 2 * k)) (g (57 + 2 * j)) B J N2)) w) rfl (ev_isSheet (d := 897) (nI j)) ?_
                            refine kx_st 0 (pc' := 11) (L' := [some (.ref 65), some (.int (nI k)), some (.int (nI B)), some (.int (nI j)), some (.int (nI J)), some (.int (nI N2)), none]) (st' := [.int (kx_b (0 ≤ nI j ∧ nI j ≤ 3))]) (h' := kv_wd (kv_uf g (57 + 2 * j) (va_cpy (g (57 + 2 * k)) (g (57 + 2 * j)) B J N2)) w) rfl ?_
                            refine kx_bn (t := 21) rfl rfl (fun (m11 : (0 ≤ nI j ∧ nI j ≤ 3)) => ?_) (fun (m11 : ¬ (0 ≤ nI j ∧ nI j ≤ 3)) => ?_)
                            · refine kx_st 3 (pc' := 26) (L' := [some (.ref 65), some (.int (nI k)), some (.int (nI B)), some (.int (nI j)), some (.int (nI J)), some (.int (nI N2)), none]) (st' := [.int (nI k), .ref 71]) (h' := kv_wd (kv_uf g (57 + 2 * j) (va_cpy (g (57 + 2 * k)) (g (57 + 2 * j)) B J N2)) w) rfl ?_
                              refine kx_ia (k := k) rfl rfl (by decide) rfl (by omega) (by decide) ?_
                              refine kx_bc (t := 39) rfl rfl (fun (m27 : (kv_uf g (57 + 2 * j) (va_cpy (g (57 + 2 * k)) (g (57 + 2 * j)) B J N2)) 71 k = 0) => ?_) (fun (m27 : ¬ ((kv_uf g (57 + 2 * j) (va_cpy (g (57 + 2 * k)) (g (57 + 2 * j)) B J N2)) 71 k = 0)) => ?_)
                              · exact absurd (by rw [kv_uf_ne (by omega)] at m27; exact m27) hb
                              · refine kx_st 0 (pc' := 30) (L' := [some (.ref 65), some (.int (nI k)), some (.int (nI B)), some (.int (nI j)), some (.int (nI J)), some (.int (nI N2)), none]) (st' := []) (h' := kv_wd (kv_uf g (57 + 2 * j) (va_cpy (g (57 + 2 * k)) (g (57 + 2 * j)) B J N2)) w) rfl ?_
                                refine kx_st 3 (pc' := 35) (L' := [some (.ref 65), some (.int (nI k)), some (.int (nI B)), some (.int (nI j)), some (.int (nI J)), some (.int (nI N2)), none]) (st' := [.int (nI j), .ref 71]) (h' := kv_wd (kv_uf g (57 + 2 * j) (va_cpy (g (57 + 2 * k)) (g (57 + 2 * j)) B J N2)) w) rfl ?_
                                refine kx_ia (k := j) rfl rfl (by decide) rfl (by omega) (by decide) ?_
                                refine kx_bc (t := 46) rfl rfl (fun (m36 : ¬ (kv_uf g (57 + 2 * j) (va_cpy (g (57 + 2 * k)) (g (57 + 2 * j)) B J N2)) 71 j = 0) => ?_) (fun (m36 : ¬ (¬ (kv_uf g (57 + 2 * j) (va_cpy (g (57 + 2 * k)) (g (57 + 2 * j)) B J N2)) 71 j = 0)) => ?_)
                                · refine kx_st 3 (pc' := 51) (L' := [some (.ref 65), some (.int (nI k)), some (.int (nI B)), some (.int (nI j)), some (.int (nI J)), some (.int (nI N2)), none]) (st' := [.int (nI k), .ref 71]) (h' := kv_wd (kv_uf g (57 + 2 * j) (va_cpy (g (57 + 2 * k)) (g (57 + 2 * j)) B J N2)) w) rfl ?_
                                  refine kx_ia (k := k) rfl rfl (by decide) rfl (by omega) (by decide) ?_
                                  refine kx_st 3 (pc' := 57) (L' := [some (.ref 65), some (.int (nI k)), some (.int (nI B)), some (.int (nI j)), some (.int (nI J)), some (.int (nI N2)), none]) (st' := [.int (nI j), .ref 71, .int ((kv_uf g (57 + 2 * j) (va_cpy (g (57 + 2 * k)) (g (57 + 2 * j)) B J N2)) 71 k)]) (h' := kv_wd (kv_uf g (57 + 2 * j) (va_cpy (g (57 + 2 * k)) (g (57 + 2 * j)) B J N2)) w) rfl ?_
                                  refine kx_ia (k := j) rfl rfl (by decide) rfl (by omega) (by decide) ?_
                                  refine kx_bi (t := 68) rfl rfl (fun (m58 : (kv_uf g (57 + 2 * j) (va_cpy (g (57 + 2 * k)) (g (57 + 2 * j)) B J N2)) 71 k = (kv_uf g (57 + 2 * j) (va_cpy (g (57 + 2 * k)) (g (57 + 2 * j)) B J N2)) 71 j) => ?_) (fun (m58 : ¬ ((kv_uf g (57 + 2 * j) (va_cpy (g (57 + 2 * k)) (g (57 + 2 * j)) B J N2)) 71 k = (kv_uf g (57 + 2 * j) (va_cpy (g (57 + 2 * k)) (g (57 + 2 * j)) B J N2)) 71 j)) => ?_)
                                  · refine kx_st 1 (pc' := 70) (L' := [some (.ref 65), some (.int (nI k)), some (.int (nI B)), some (.int (nI j)), some (.int (nI J)), some (.int (nI N2)), none]) (st' := [.int (nI N2)]) (h' := kv_wd (kv_uf g (57 + 2 * j) (va_cpy (g (57 + 2 * k)) (g (57 + 2 * j)) B J N2)) w) rfl ?_
                                    refine kx_bc (t := 109) rfl rfl (fun (m70 : nI N2 < 0) => ?_) (fun (m70 : ¬ (nI N2 < 0)) => ?_)
                                    · exact absurd m70 p1.1
                                    · refine kx_st 0 (pc' := 73) (L' := [some (.ref 65), some (.int (nI k)), some (.int (nI B)), some (.int (nI j)), some (.int (nI J)), some (.int (nI N2)), none]) (st' := []) (h' := kv_wd (kv_uf g (57 + 2 * j) (va_cpy (g (57 + 2 * k)) (g (57 + 2 * j)) B J N2)) w) rfl ?_
                                      refine kx_st 1 (pc' := 74) (L' := [some (.ref 65), some (.int (nI k)), some (.int (nI B)), some (.int (nI j)), some (.int (nI J)), some (.int (nI N2)), none]) (st' := [.int (nI B)]) (h' := kv_wd (kv_uf g (57 + 2 * j) (va_cpy (g (57 + 2 * k)) (g (57 + 2 * j)) B J N2)) w) rfl ?_
                                      refine kx_bc (t := 109) rfl rfl (fun (m74 : nI B < 0) => ?_) (fun (m74 : ¬ (nI B < 0)) => ?_)
                                      · exact absurd m74 p1.2.1
                                      · refine kx_st 0 (pc' := 77) (L' := [some (.ref 65), some (.int (nI k)), some (.int (nI B)), some (.int (nI j)), some (.int (nI J)), some (.int (nI N2)), none]) (st' := []) (h' := kv_wd (kv_uf g (57 + 2 * j) (va_cpy (g (57 + 2 * k)) (g (57 + 2 * j)) B J N2)) w) rfl ?_
                                        refine kx_st 1 (pc' := 79) (L' := [some (.ref 65), some (.int (nI k)), some (.int (nI B)), some (.int (nI j)), some (.int (nI J)), some (.int (nI N2)), none]) (st' := [.int (nI J)]) (h' := kv_wd (kv_uf g (57 + 2 * j) (va_cpy (g (57 + 2 * k)) (g (57 + 2 * j)) B J N2)) w) rfl ?_
                                        refine kx_bc (t := 109) rfl rfl (fun (m79 : nI J < 0) => ?_) (fun (m79 : ¬ (nI J < 0)) => ?_)
                                        · exact absurd m79 p2.2.1
                                        · refine kx_st 0 (pc' := 82) (L' := [some (.ref 65), some (.int (nI k)), some (.int (nI B)), some (.int (nI j)), some (.int (nI J)), some (.int (nI N2)), none]) (st' := []) (h' := kv_wd (kv_uf g (57 + 2 * j) (va_cpy (g (57 + 2 * k)) (g (57 + 2 * j)) B J N2)) w) rfl ?_
                                          refine kx_st 4 (pc' := 88) (L' := [some (.ref 65), some (.int (nI k)), some (.int (nI B)), some (.int (nI j)), some (.int (nI J)), some (.int (nI N2)), none]) (st' := [.int (nI k), .ref 72, .int (nI B)]) (h' := kv_wd (kv_uf g (57 + 2 * j) (va_cpy (g (57 + 2 * k)) (g (57 + 2 * j)) B J N2)) w) rfl ?_
                                          refine kx_ia (k := k) rfl rfl (by decide) rfl (by omega) (by decide) ?_
                                          refine kx_st 2 (pc' := 92) (L' := [some (.ref 65), some (.int (nI k)), some (.int (nI B)), some (.int (nI j)), some (.int (nI J)), some (.int (nI N2)), none]) (st' := [.int (((kv_uf g (57 + 2 * j) (va_cpy (g (57 + 2 * k)) (g (57 + 2 * j)) B J N2)) 72 k) - (nI N2)), .int (nI B)]) (h' := kv_wd (kv_uf g (57 + 2 * j) (va_cpy (g (57 + 2 * k)) (g (57 + 2 * j)) B J N2)) w) rfl ?_
                                          refine kx_bi (t := 109) rfl rfl (fun (m92 : ((kv_uf g (57 + 2 * j) (va_cpy (g (57 + 2 * k)) (g (57 + 2 * j)) B J N2)) 72 k) - (nI N2) < nI B) => ?_) (fun (m92 : ¬ (((kv_uf g (57 + 2 * j) (va_cpy (g (57 + 2 * k)) (g (57 + 2 * j)) B J N2)) 72 k) - (nI N2) < nI B)) => ?_)
                                          · exact absurd (by rw [kv_uf_ne (by omega), n2] at m92; exact m92) p1.2.2.2
                                          · refine kx_st 0 (pc' := 95) (L' := [some (.ref 65), some (.int (nI k)), some (.int (nI B)), some (.int (nI j)), some (.int (nI J)), some (.int (nI N2)), none]) (st' := []) (h' := kv_wd (kv_uf g (57 + 2 * j) (va_cpy (g (57 + 2 * k)) (g (57 + 2 * j)) B J N2)) w) rfl ?_
                                            refine kx_st 4 (pc' := 102) (L' := [some (.ref 65), some (.int (nI k)), some (.int (nI B)), some (.int (nI j)), some (.int (nI J)), some (.int (nI N2)), none]) (st' := [.int (nI j), .ref 72, .int (nI J)]) (h' := kv_wd (kv_uf g (57 + 2 * j) (va_cpy (g (57 + 2 * k)) (g (57 + 2 * j)) B J N2)) w) rfl ?_
                                            refine kx_ia (k := j) rfl rfl (by decide) rfl (by omega) (by decide) ?_
                                            refine kx_st 2 (pc' := 106) (L' := [some (.ref 65), some (.int (nI k)), some (.int (nI B)), some (.int (nI j)), some (.int (nI J)), some (.int (nI N2)), none]) (st' := [.int (((kv_uf g (57 + 2 * j) (va_cpy (g (57 + 2 * k)) (g (57 + 2 * j)) B J N2)) 72 j) - (nI N2)), .int (nI J)]) (h' := kv_wd (kv_uf g (57 + 2 * j) (va_cpy (g (57 + 2 * k)) (g (57 + 2 * j)) B J N2)) w) rfl ?_
                                            refine kx_bi (t := 116) rfl rfl (fun (m106 : nI J ≤ ((kv_uf g (57 + 2 * j) (va_cpy (g (57 + 2 * k)) (g (57 + 2 * j)) B J N2)) 72 j) - (nI N2)) => ?_) (fun (m106 : ¬ (nI J ≤ ((kv_uf g (57 + 2 * j) (va_cpy (g (57 + 2 * k)) (g (57 + 2 * j)) B J N2)) 72 j) - (nI N2))) => ?_)
                                            · refine kx_st 2 (pc' := 119) (L' := [some (.ref 65), some (.int (nI k)), some (.int (nI B)), some (.int (nI j)), some (.int (nI J)), some (.int (nI N2)), some (.int 0)]) (st' := []) (h' := kv_wd (kv_uf g (57 + 2 * j) (va_cpy (g (57 + 2 * k)) (g (57 + 2 * j)) B J N2)) w) rfl ?_
                                              have hl := lp_move1 (E := E) (d := 899) (g := kv_uf g (57 + 2 * j) (va_cpy (g (57 + 2 * k)) (g (57 + 2 * j)) B J N2)) (w := w) k j B J N2 hk4 hj4 (by omega) (by omega) (P := fun v' h' => v' = some (.int (nI N2)) ∧ ∃ g2 w2, h' = kv_wd g2 w2 ∧ kx_Rl lr g2 w2 (i + 1)) ?_ N2 0 (by omega)
                                              · rw [kx_mv_0, kv_uf_id] at hl; exact hl
                                              · refine kx_st 2 (pc' := 156) (L' := [some (.ref 65), some (.int (nI k)), some (.int (nI B)), some (.int (nI j)), some (.int (nI J)), some (.int (nI N2)), some (.int 0)]) (st' := []) (h' := kv_wd (kv_uf (kv_uf g (57 + 2 * j) (va_cpy (g (57 + 2 * k)) (g (57 + 2 * j)) B J N2)) 74 (kx_mv (fun x => (kv_uf g (57 + 2 * j) (va_cpy (g (57 + 2 * k)) (g (57 + 2 * j)) B J N2)) 73 (40 * k + B + x)) ((kv_uf g (57 + 2 * j) (va_cpy (g (57 + 2 * k)) (g (57 + 2 * j)) B J N2)) 74) N2)) w) rfl ?_
                                                have hl2 := lp_move2 (E := E) (d := 899) (g := kv_uf (kv_uf g (57 + 2 * j) (va_cpy (g (57 + 2 * k)) (g (57 + 2 * j)) B J N2)) 74 (kx_mv (fun x => (kv_uf g (57 + 2 * j) (va_cpy (g (57 + 2 * k)) (g (57 + 2 * j)) B J N2)) 73 (40 * k + B + x)) ((kv_uf g (57 + 2 * j) (va_cpy (g (57 + 2 * k)) (g (57 + 2 * j)) B J N2)) 74) N2)) (w := w) k j B J N2 hk4 hj4 (by omega) (by omega) (P := fun v' h' => v' = some (.int (nI N2)) ∧ ∃ g2 w2, h' = kv_wd g2 w2 ∧ kx_Rl lr g2 w2 (i + 1)) ⟨rfl, _, _, rfl, ?_⟩ N2 0 (by omega)
                                                · rw [kx_cp_0, kv_uf_id] at hl2; exact hl2
                                                · refine kx_Rl_sh hR (fun b hb1 hb71 hb72 hb73 hb74 => by rw [kv_uf_ne hb73, kv_uf_ne hb74, kv_uf_ne (by omega)]) (kx_sh_of (fun z hz => ?_))
                                                  have e73 : ∀ x, (kv_uf (kv_uf (kv_uf g (57 + 2 * j) (va_cpy (g (57 + 2 * k)) (g (57 + 2 * j)) B J N2)) 74 (kx_mv (fun x => (kv_uf g (57 + 2 * j) (va_cpy (g (57 + 2 * k)) (g (57 + 2 * j)) B J N2)) 73 (40 * k + B + x)) ((kv_uf g (57 + 2 * j) (va_cpy (g (57 + 2 * k)) (g (57 + 2 * j)) B J N2)) 74) N2)) 73 (va_cpy ((kv_uf (kv_uf g (57 + 2 * j) (va_cpy (g (57 + 2 * k)) (g (57 + 2 * j)) B J N2)) 74 (kx_mv (fun x => (kv_uf g (57 + 2 * j) (va_cpy (g (57 + 2 * k)) (g (57 + 2 * j)) B J N2)) 73 (40 * k + B + x)) ((kv_uf g (57 + 2 * j) (va_cpy (g (57 + 2 * k)) (g (57 + 2 * j)) B J N2)) 74) N2)) 74) ((kv_uf (kv_uf g (57 + 2 * j) (va_cpy (g (57 + 2 * k)) (g (57 + 2 * j)) B J N2)) 74 (kx_mv (fun x => (kv_uf g (57 + 2 * j) (va_cpy (g (57 + 2 * k)) (g (57 + 2 * j)) B J N2)) 73 (40 * k + B + x)) ((kv_uf g (57 + 2 * j) (va_cpy (g (57 + 2 * k)) (g (57 + 2 * j)) B J N2)) 74) N2)) 73) 0 (40 * j + J) N2)) 73 x = if 40 * j + J ≤ x ∧ x < 40 * j + J + N2 then g 73 (40 * k + B + (x - (40 * j + J))) else g 73 x := by
                                                    intro x
                                                    rw [kv_uf_self]
                                                    unfold va_cpy
                                                    by_cases hx : 40 * j + J ≤ x ∧ x < 40 * j + J + N2
                                                    · rw [if_pos hx, if_pos hx, kv_uf_self]
                                                      unfold kx_mv
                                                      rw [if_pos (by omega), kv_uf_ne (by omega), show 0 + (x - (40 * j + J)) = x - (40 * j + J) by omega]
                                                    · rw [if_neg hx, if_neg hx, kv_uf_ne (by omega), kv_uf_ne (by omega)]
                                                  have eb : ∀ b, b ≠ 73 → b ≠ 74 → b ≠ 57 + 2 * j → (kv_uf (kv_uf (kv_uf g (57 + 2 * j) (va_cpy (g (57 + 2 * k)) (g (57 + 2 * j)) B J N2)) 74 (kx_mv (fun x => (kv_uf g (57 + 2 * j) (va_cpy (g (57 + 2 * k)) (g (57 + 2 * j)) B J N2)) 73 (40 * k + B + x)) ((kv_uf g (57 + 2 * j) (va_cpy (g (57 + 2 * k)) (g (57 + 2 * j)) B J N2)) 74) N2)) 73 (va_cpy ((kv_uf (kv_uf g (57 + 2 * j) (va_cpy (g (57 + 2 * k)) (g (57 + 2 * j)) B J N2)) 74 (kx_mv (fun x => (kv_uf g (57 + 2 * j) (va_cpy (g (57 + 2 * k)) (g (57 + 2 * j)) B J N2)) 73 (40 * k + B + x)) ((kv_uf g (57 + 2 * j) (va_cpy (g (57 + 2 * k)) (g (57 + 2 * j)) B J N2)) 74) N2)) 74) ((kv_uf (kv_uf g (57 + 2 * j) (va_cpy (g (57 + 2 * k)) (g (57 + 2 * j)) B J N2)) 74 (kx_mv (fun x => (kv_uf g (57 + 2 * j) (va_cpy (g (57 + 2 * k)) (g (57 + 2 * j)) B J N2)) 73 (40 * k + B + x)) ((kv_uf g (57 + 2 * j) (va_cpy (g (57 + 2 * k)) (g (57 + 2 * j)) B J N2)) 74) N2)) 73) 0 (40 * j + J) N2)) b = g b := fun b x1 x2 x3 => by rw [kv_uf_ne x1, kv_uf_ne x2, kv_uf_ne x3]
                                                  have ej : (kv_uf (kv_uf (kv_uf g (57 + 2 * j) (va_cpy (g (57 + 2 * k)) (g (57 + 2 * j)) B J N2)) 74 (kx_mv (fun x => (kv_uf g (57 + 2 * j) (va_cpy (g (57 + 2 * k)) (g (57 + 2 * j)) B J N2)) 73 (40 * k + B + x)) ((kv_uf g (57 + 2 * j) (va_cpy (g (57 + 2 * k)) (g (57 + 2 * j)) B J N2)) 74) N2)) 73 (va_cpy ((kv_uf (kv_uf g (57 + 2 * j) (va_cpy (g (57 + 2 * k)) (g (57 + 2 * j)) B J N2)) 74 (kx_mv (fun x => (kv_uf g (57 + 2 * j) (va_cpy (g (57 + 2 * k)) (g (57 + 2 * j)) B J N2)) 73 (40 * k + B + x)) ((kv_uf g (57 + 2 * j) (va_cpy (g (57 + 2 * k)) (g (57 + 2 * j)) B J N2)) 74) N2)) 74) ((kv_uf (kv_uf g (57 + 2 * j) (va_cpy (g (57 + 2 * k)) (g (57 + 2 * j)) B J N2)) 74 (kx_mv (fun x => (kv_uf g (57 + 2 * j) (va_cpy (g (57 + 2 * k)) (g (57 + 2 * j)) B J N2)) 73 (40 * k + B + x)) ((kv_uf g (57 + 2 * j) (va_cpy (g (57 + 2 * k)) (g (57 + 2 * j)) B J N2)) 74) N2)) 73) 0 (40 * j + J) N2)) (57 + 2 * j) = va_cpy (g (57 + 2 * k)) (g (57 + 2 * j)) B J N2 := by rw [kv_uf_ne (by omega), kv_uf_ne (by omega), kv_uf_self]
                                                  obtain ⟨v1, v2, ⟨z9, z40, z2⟩, v4⟩ := kx_sh_at sh hz
                                                  refine ⟨by rw [eb _ (by omega) (by omega) (by omega), eb _ (by omega) (by omega) (by omega)]; exact v1, by rw [eb _ (by omega) (by omega) (by omega), eb _ (by omega) (by omega) (by omega)]; exact v2, ⟨z9, z40, by rw [eb _ (by omega) (by omega) (by omega)]; exact z2⟩, fun x hx => ?_⟩
                                                  dsimp only
                                                  rw [e73]
                                                  by_cases hzj : z = j
                                                  · subst hzj
                                                    rw [ej]
                                                    unfold va_cpy
                                                    by_cases hxx : J ≤ x ∧ x < J + N2
                                                    · rw [if_pos hxx, if_pos (by omega), s4 _ (by omega), show 40 * z + x - (40 * z + J) = x - J by omega]; exact congrArg (g 73) (show 40 * k + (B + (x - J)) = 40 * k + B + (x - J) by omega)
                                                    · rw [if_neg hxx, if_neg (by omega)]; exact v4 x hx
                                                  · rw [eb _ (by omega) (by omega) (by omega), if_neg (by omega)]; exact v4 x hx
                                            · exact absurd (by rw [kv_uf_ne (by omega), y2]; exact Int32.not_lt.mp p2.2.2.2) m106
                                  · exact absurd (by rw [kv_uf_ne (by omega)]; exact hq) m58
                                · exact absurd (by rw [kv_uf_ne (by omega)] at m36; exact Classical.not_not.mp m36) hb2
                            · exact absurd hC m11
                        · exact absurd (by rw [u2, y2]; exact p2) h91
                    · exact absurd (by rw [s1, u1]; exact hq) h62
                  · exact absurd (u1.symm.trans (Classical.not_not.mp h43)) hb2
              · refine kx_two (by decide) (Nat.le_of_ble_eq_true rfl) (by decide) (Nat.le_of_ble_eq_true rfl) ?_
                refine kx_st 0 (pc' := 0) (L' := [some (.ref 0), some (.int (nI k)), some (.int b), some (.int (nI j)), some (.int e), some (.int f), none, none]) (st' := []) (h' := kv_wd g w) rfl ?_
                refine kx_st 2 (pc' := 2) (L' := [some (.ref 0), some (.int (nI k)), some (.int b), some (.int (nI j)), some (.int e), some (.int f), none, none]) (st' := [.int (nI k), .ref 0]) (h' := kv_wd g w) rfl ?_
                refine kx_call (z := 127) (as := [.ref 0, .int (nI k)]) (rest := []) (v := some (.ref (56 + 2 * k))) (h1 := kv_wd g w) rfl (ev_sheetAt (d := 898) q k hk4) ?_
                refine kx_st 0 (pc' := 5) (L' := [some (.ref 0), some (.int (nI k)), some (.int b), some (.int (nI j)), some (.int e), some (.int f), none, none]) (st' := [.ref (56 + 2 * k)]) (h' := kv_wd g w) rfl ?_
                refine kx_st 3 (pc' := 9) (L' := [some (.ref 0), some (.int (nI k)), some (.int b), some (.int (nI j)), some (.int e), some (.int f), some (.ref (56 + 2 * k)), none]) (st' := [.int (nI j), .ref 0]) (h' := kv_wd g w) rfl ?_
                refine kx_call (z := 127) (as := [.ref 0, .int (nI j)]) (rest := []) (v := some (.ref (56 + 2 * j))) (h1 := kv_wd g w) rfl (ev_sheetAt (d := 898) q j hj4) ?_
                refine kx_st 0 (pc' := 12) (L' := [some (.ref 0), some (.int (nI k)), some (.int b), some (.int (nI j)), some (.int e), some (.int f), some (.ref (56 + 2 * k)), none]) (st' := [.ref (56 + 2 * j)]) (h' := kv_wd g w) rfl ?_
                refine kx_st 2 (pc' := 16) (L' := [some (.ref 0), some (.int (nI k)), some (.int b), some (.int (nI j)), some (.int e), some (.int f), some (.ref (56 + 2 * k)), some (.ref (56 + 2 * j))]) (st' := [.ref (56 + 2 * k)]) (h' := kv_wd g w) rfl ?_
                refine kx_st 1 (pc' := 19) (L' := [some (.ref 0), some (.int (nI k)), some (.int b), some (.int (nI j)), some (.int e), some (.int f), some (.ref (56 + 2 * k)), some (.ref (56 + 2 * j))]) (st' := []) (h' := kv_wd g w) rfl ?_
                refine kx_st 1 (pc' := 21) (L' := [some (.ref 0), some (.int (nI k)), some (.int b), some (.int (nI j)), some (.int e), some (.int f), some (.ref (56 + 2 * k)), some (.ref (56 + 2 * j))]) (st' := [.ref (56 + 2 * j)]) (h' := kv_wd g w) rfl ?_
                refine kx_st 1 (pc' := 30) (L' := [some (.ref 0), some (.int (nI k)), some (.int b), some (.int (nI j)), some (.int e), some (.int f), some (.ref (56 + 2 * k)), some (.ref (56 + 2 * j))]) (st' := []) (h' := kv_wd g w) rfl ?_
                refine kx_st 1 (pc' := 32) (L' := [some (.ref 0), some (.int (nI k)), some (.int b), some (.int (nI j)), some (.int e), some (.int f), some (.ref (56 + 2 * k)), some (.ref (56 + 2 * j))]) (st' := [.ref (56 + 2 * k)]) (h' := kv_wd g w) rfl ?_
                refine kx_gf (i := 254) (k := 0) (v := .int (g (56 + 2 * k) 0)) rfl rfl (by have := (kv_st_h hk4).1; omega) ((kv_st_h hk4).2.1 _ _) rfl ?_
                refine kx_bc (t := 46) rfl rfl (fun (h35 : g (56 + 2 * k) 0 = 0) => ?_) (fun (h35 : ¬ (g (56 + 2 * k) 0 = 0)) => ?_)
                · exact absurd (s1.symm.trans h35) hb
                · refine kx_st 0 (pc' := 38) (L' := [some (.ref 0), some (.int (nI k)), some (.int b), some (.int (nI j)), some (.int e), some (.int f), some (.ref (56 + 2 * k)), some (.ref (56 + 2 * j))]) (st' := []) (h' := kv_wd g w) rfl ?_
                  refine kx_st 1 (pc' := 40) (L' := [some (.ref 0), some (.int (nI k)), some (.int b), some (.int (nI j)), some (.int e), some (.int f), some (.ref (56 + 2 * k)), some (.ref (56 + 2 * j))]) (st' := [.ref (56 + 2 * j)]) (h' := kv_wd g w) rfl ?_
                  refine kx_gf (i := 254) (k := 0) (v := .int (g (56 + 2 * j) 0)) rfl rfl (by have := (kv_st_h hj4).1; omega) ((kv_st_h hj4).2.1 _ _) rfl ?_
                  refine kx_bc (t := 52) rfl rfl (fun (h43 : ¬ g (56 + 2 * j) 0 = 0) => ?_) (fun (h43 : ¬ (¬ g (56 + 2 * j) 0 = 0)) => ?_)
                  · refine kx_st 1 (pc' := 54) (L' := [some (.ref 0), some (.int (nI k)), some (.int b), some (.int (nI j)), some (.int e), some (.int f), some (.ref (56 + 2 * k)), some (.ref (56 + 2 * j))]) (st' := [.ref (56 + 2 * k)]) (h' := kv_wd g w) rfl ?_
                    refine kx_gf (i := 254) (k := 0) (v := .int (g (56 + 2 * k) 0)) rfl rfl (by have := (kv_st_h hk4).1; omega) ((kv_st_h hk4).2.1 _ _) rfl ?_
                    refine kx_st 1 (pc' := 59) (L' := [some (.ref 0), some (.int (nI k)), some (.int b), some (.int (nI j)), some (.int e), some (.int f), some (.ref (56 + 2 * k)), some (.ref (56 + 2 * j))]) (st' := [.ref (56 + 2 * j), .int (g (56 + 2 * k) 0)]) (h' := kv_wd g w) rfl ?_
                    refine kx_gf (i := 254) (k := 0) (v := .int (g (56 + 2 * j) 0)) rfl rfl (by have := (kv_st_h hj4).1; omega) ((kv_st_h hj4).2.1 _ _) rfl ?_
                    refine kx_bi (t := 71) rfl rfl (fun (h62 : g (56 + 2 * k) 0 = g (56 + 2 * j) 0) => ?_) (fun (h62 : ¬ (g (56 + 2 * k) 0 = g (56 + 2 * j) 0)) => ?_)
                    · refine kx_st 3 (pc' := 76) (L' := [some (.ref 0), some (.int (nI k)), some (.int b), some (.int (nI j)), some (.int e), some (.int f), some (.ref (56 + 2 * k)), some (.ref (56 + 2 * j))]) (st' := [.int f, .int b, .ref (56 + 2 * k)]) (h' := kv_wd g w) rfl ?_
                      refine kx_call (z := 58) (as := [.ref (56 + 2 * k), .int b, .int f]) (rest := []) (v := some (.int (kx_b (¬ f < 0 ∧ ¬ b < 0 ∧ ¬ g (56 + 2 * k) 1 < f ∧ ¬ g (56 + 2 * k) 1 - f < b)))) (h1 := kv_wd g w) (kx_cv (b := 56 + 2 * k) (A := [.int b, .int f]) (rest := []) rfl rfl rfl rfl (Nat.le_of_ble_eq_true rfl) (by have := (kv_st_h hk4).1; omega) ((kv_st_h hk4).2.1 _ _)) (ev_hasPart (d := 898) k hk4 b f) ?_
                      refine kx_st 0 (pc' := 79) (L' := [some (.ref 0), some (.int (nI k)), some (.int b), some (.int (nI j)), some (.int e), some (.int f), some (.ref (56 + 2 * k)), some (.ref (56 + 2 * j))]) (st' := [.int (kx_b (¬ f < 0 ∧ ¬ b < 0 ∧ ¬ g (56 + 2 * k) 1 < f ∧ ¬ g (56 + 2 * k) 1 - f < b))]) (h' := kv_wd g w) rfl ?_
                      refine kx_be (t := 94) rfl rfl (fun (h79 : ¬ (¬ f < 0 ∧ ¬ b < 0 ∧ ¬ g (56 + 2 * k) 1 < f ∧ ¬ g (56 + 2 * k) 1 - f < b)) => ?_) (fun (h79 : (¬ f < 0 ∧ ¬ b < 0 ∧ ¬ g (56 + 2 * k) 1 < f ∧ ¬ g (56 + 2 * k) 1 - f < b)) => ?_)
                      · exact absurd (by rw [s2, n2]; exact p1) h79
                      · refine kx_st 0 (pc' := 82) (L' := [some (.ref 0), some (.int (nI k)), some (.int b), some (.int (nI j)), some (.int e), some (.int f), some (.ref (56 + 2 * k)), some (.ref (56 + 2 * j))]) (st' := []) (h' := kv_wd g w) rfl ?_
                        refine kx_st 3 (pc' := 88) (L' := [some (.ref 0), some (.int (nI k)), some (.int b), some (.int (nI j)), some (.int e), some (.int f), some (.ref (56 + 2 * k)), some (.ref (56 + 2 * j))]) (st' := [.int f, .int e, .ref (56 + 2 * j)]) (h' := kv_wd g w) rfl ?_
                        refine kx_call (z := 58) (as := [.ref (56 + 2 * j), .int e, .int f]) (rest := []) (v := some (.int (kx_b (¬ f < 0 ∧ ¬ e < 0 ∧ ¬ g (56 + 2 * j) 1 < f ∧ ¬ g (56 + 2 * j) 1 - f < e)))) (h1 := kv_wd g w) (kx_cv (b := 56 + 2 * j) (A := [.int e, .int f]) (rest := []) rfl rfl rfl rfl (Nat.le_of_ble_eq_true rfl) (by have := (kv_st_h hj4).1; omega) ((kv_st_h hj4).2.1 _ _)) (ev_hasPart (d := 898) j hj4 e f) ?_
                        refine kx_st 0 (pc' := 91) (L' := [some (.ref 0), some (.int (nI k)), some (.int b), some (.int (nI j)), some (.int e), some (.int f), some (.ref (56 + 2 * k)), some (.ref (56 + 2 * j))]) (st' := [.int (kx_b (¬ f < 0 ∧ ¬ e < 0 ∧ ¬ g (56 + 2 * j) 1 < f ∧ ¬ g (56 + 2 * j) 1 - f < e))]) (h' := kv_wd g w) rfl ?_
                        refine kx_bn (t := 100) rfl rfl (fun (h91 : (¬ f < 0 ∧ ¬ e < 0 ∧ ¬ g (56 + 2 * j) 1 < f ∧ ¬ g (56 + 2 * j) 1 - f < e)) => ?_) (fun (h91 : ¬ (¬ f < 0 ∧ ¬ e < 0 ∧ ¬ g (56 + 2 * j) 1 < f ∧ ¬ g (56 + 2 * j) 1 - f < e)) => ?_)
                        · exact absurd (by rw [u2, y2] at h91; exact h91) p2
                        · refine kx_st 0 (pc' := 94) (L' := [some (.ref 0), some (.int (nI k)), some (.int b), some (.int (nI j)), some (.int e), some (.int f), some (.ref (56 + 2 * k)), some (.ref (56 + 2 * j))]) (st' := []) (h' := kv_wd g w) rfl ?_
                          refine kx_st 2 (pc' := 96) (L' := [some (.ref 0), some (.int (nI k)), some (.int b), some (.int (nI j)), some (.int e), some (.int f), some (.ref (56 + 2 * k)), some (.ref (56 + 2 * j))]) (st' := [.int 1, .ref 0]) (h' := kv_wd g w) rfl ?_
                          refine kx_call (z := 123) (as := [.ref 0, .int 1]) (rest := []) (v := some (.int (-1000000000 - nI 1))) (h1 := kv_wd (kv_up g 64 1 (g 64 1 + 1)) w) rfl (ev_error (d := 898) 1 (by decide) (by decide)) ?_
                          refine kx_st 0 (pc' := 99) (L' := [some (.ref 0), some (.int (nI k)), some (.int b), some (.int (nI j)), some (.int e), some (.int f), some (.ref (56 + 2 * k)), some (.ref (56 + 2 * j))]) (st' := [.int (-1000000000 - nI 1)]) (h' := kv_wd (kv_up g 64 1 (g 64 1 + 1)) w) rfl ?_
                          refine kx_ret (v := some (.int (-1000000000 - nI 1))) rfl ?_
                          refine ⟨_, _, _, rfl, rfl, ?_⟩
                          refine kx_st 0 (pc' := 0) (L' := [some (.ref 65), some (.int (nI k)), some (.int b), some (.int (nI j)), some (.int e), some (.int f), none]) (st' := []) (h' := kv_wd (kv_up g 64 1 (g 64 1 + 1)) w) rfl ?_
                          refine kx_st 1 (pc' := 1) (L' := [some (.ref 65), some (.int (nI k)), some (.int b), some (.int (nI j)), some (.int e), some (.int f), none]) (st' := [.int (nI k)]) (h' := kv_wd (kv_up g 64 1 (g 64 1 + 1)) w) rfl ?_
                          refine kx_call (z := 200) (as := [.int (nI k)]) (rest := []) (v := some (.int (kx_b (0 ≤ nI k ∧ nI k ≤ 3)))) (h1 := kv_wd (kv_up g 64 1 (g 64 1 + 1)) w) rfl (ev_isSheet (d := 897) (nI k)) ?_
                          refine kx_st 0 (pc' := 4) (L' := [some (.ref 65), some (.int (nI k)), some (.int b), some (.int (nI j)), some (.int e), some (.int f), none]) (st' := [.int (kx_b (0 ≤ nI k ∧ nI k ≤ 3))]) (h' := kv_wd (kv_up g 64 1 (g 64 1 + 1)) w) rfl ?_
                          refine kx_be (t := 14) rfl rfl (fun (m4 : ¬ (0 ≤ nI k ∧ nI k ≤ 3)) => ?_) (fun (m4 : (0 ≤ nI k ∧ nI k ≤ 3)) => ?_)
                          · exact absurd hA m4
                          · refine kx_st 0 (pc' := 7) (L' := [some (.ref 65), some (.int (nI k)), some (.int b), some (.int (nI j)), some (.int e), some (.int f), none]) (st' := []) (h' := kv_wd (kv_up g 64 1 (g 64 1 + 1)) w) rfl ?_
                            refine kx_st 1 (pc' := 8) (L' := [some (.ref 65), some (.int (nI k)), some (.int b), some (.int (nI j)), some (.int e), some (.int f), none]) (st' := [.int (nI j)]) (h' := kv_wd (kv_up g 64 1 (g 64 1 + 1)) w) rfl ?_
                            refine kx_call (z := 200) (as := [.int (nI j)]) (rest := []) (v := some (.int (kx_b (0 ≤ nI j ∧ nI j ≤ 3)))) (h1 := kv_wd (kv_up g 64 1 (g 64 1 + 1)) w) rfl (ev_isSheet (d := 897) (nI j)) ?_
                            refine kx_st 0 (pc' := 11) (L' := [some (.ref 65), some (.int (nI k)), some (.int b), some (.int (nI j)), some (.int e), some (.int f), none]) (st' := [.int (kx_b (0 ≤ nI j ∧ nI j ≤ 3))]) (h' := kv_wd (kv_up g 64 1 (g 64 1 + 1)) w) rfl ?_
                            refine kx_bn (t := 21) rfl rfl (fun (m11 : (0 ≤ nI j ∧ nI j ≤ 3)) => ?_) (fun (m11 : ¬ (0 ≤ nI j ∧ nI j ≤ 3)) => ?_)
                            · refine kx_st 3 (pc' := 26) (L' := [some (.ref 65), some (.int (nI k)), some (.int b), some (.int (nI j)), some (.int e), some (.int f), none]) (st' := [.int (nI k), .ref 71]) (h' := kv_wd (kv_up g 64 1 (g 64 1 + 1)) w) rfl ?_
                              refine kx_ia (k := k) rfl rfl (by decide) rfl (by omega) (by decide) ?_
                              refine kx_bc (t := 39) rfl rfl (fun (m27 : (kv_up g 64 1 (g 64 1 + 1)) 71 k = 0) => ?_) (fun (m27 : ¬ ((kv_up g 64 1 (g 64 1 + 1)) 71 k = 0)) => ?_)
                              · exact absurd m27 hb
                              · refine kx_st 0 (pc' := 30) (L' := [some (.ref 65), some (.int (nI k)), some (.int b), some (.int (nI j)), some (.int e), some (.int f), none]) (st' := []) (h' := kv_wd (kv_up g 64 1 (g 64 1 + 1)) w) rfl ?_
                                refine kx_st 3 (pc' := 35) (L' := [some (.ref 65), some (.int (nI k)), some (.int b), some (.int (nI j)), some (.int e), some (.int f), none]) (st' := [.int (nI j), .ref 71]) (h' := kv_wd (kv_up g 64 1 (g 64 1 + 1)) w) rfl ?_
                                refine kx_ia (k := j) rfl rfl (by decide) rfl (by omega) (by decide) ?_
                                refine kx_bc (t := 46) rfl rfl (fun (m36 : ¬ (kv_up g 64 1 (g 64 1 + 1)) 71 j = 0) => ?_) (fun (m36 : ¬ (¬ (kv_up g 64 1 (g 64 1 + 1)) 71 j = 0)) => ?_)
                                · refine kx_st 3 (pc' := 51) (L' := [some (.ref 65), some (.int (nI k)), some (.int b), some (.int (nI j)), some (.int e), some (.int f), none]) (st' := [.int (nI k), .ref 71]) (h' := kv_wd (kv_up g 64 1 (g 64 1 + 1)) w) rfl ?_
                                  refine kx_ia (k := k) rfl rfl (by decide) rfl (by omega) (by decide) ?_
                                  refine kx_st 3 (pc' := 57) (L' := [some (.ref 65), some (.int (nI k)), some (.int b), some (.int (nI j)), some (.int e), some (.int f), none]) (st' := [.int (nI j), .ref 71, .int ((kv_up g 64 1 (g 64 1 + 1)) 71 k)]) (h' := kv_wd (kv_up g 64 1 (g 64 1 + 1)) w) rfl ?_
                                  refine kx_ia (k := j) rfl rfl (by decide) rfl (by omega) (by decide) ?_
                                  refine kx_bi (t := 68) rfl rfl (fun (m58 : (kv_up g 64 1 (g 64 1 + 1)) 71 k = (kv_up g 64 1 (g 64 1 + 1)) 71 j) => ?_) (fun (m58 : ¬ ((kv_up g 64 1 (g 64 1 + 1)) 71 k = (kv_up g 64 1 (g 64 1 + 1)) 71 j)) => ?_)
                                  · refine kx_st 1 (pc' := 70) (L' := [some (.ref 65), some (.int (nI k)), some (.int b), some (.int (nI j)), some (.int e), some (.int f), none]) (st' := [.int f]) (h' := kv_wd (kv_up g 64 1 (g 64 1 + 1)) w) rfl ?_
                                    refine kx_bc (t := 109) rfl rfl (fun (m70 : f < 0) => ?_) (fun (m70 : ¬ (f < 0)) => ?_)
                                    · refine kx_st 2 (pc' := 112) (L' := [some (.ref 65), some (.int (nI k)), some (.int b), some (.int (nI j)), some (.int e), some (.int f), none]) (st' := [.int (-1000000001), .ref 65]) (h' := kv_wd (kv_up g 64 1 (g 64 1 + 1)) w) rfl ?_
                                      refine kx_call (z := 131) (as := [.ref 65, .int (-1000000001)]) (rest := []) (v := some (.int (-1000000001))) (h1 := kv_wd (kv_up (kv_up g 64 1 (g 64 1 + 1)) 70 1 ((kv_up g 64 1 (g 64 1 + 1)) 70 1 + 1)) w) rfl (ev_errs (d := 898) (-1000000001) 1 (by decide) (by decide)) ?_
                                      refine kx_st 0 (pc' := 115) (L' := [some (.ref 65), some (.int (nI k)), some (.int b), some (.int (nI j)), some (.int e), some (.int f), none]) (st' := [.int (-1000000001)]) (h' := kv_wd (kv_up (kv_up g 64 1 (g 64 1 + 1)) 70 1 ((kv_up g 64 1 (g 64 1 + 1)) 70 1 + 1)) w) rfl ?_
                                      refine kx_ret (v := some (.int (-1000000001))) rfl ?_
                                      exact ⟨rfl, _, _, rfl, kx_Rl_e hR⟩
                                    · refine kx_st 0 (pc' := 73) (L' := [some (.ref 65), some (.int (nI k)), some (.int b), some (.int (nI j)), some (.int e), some (.int f), none]) (st' := []) (h' := kv_wd (kv_up g 64 1 (g 64 1 + 1)) w) rfl ?_
                                      refine kx_st 1 (pc' := 74) (L' := [some (.ref 65), some (.int (nI k)), some (.int b), some (.int (nI j)), some (.int e), some (.int f), none]) (st' := [.int b]) (h' := kv_wd (kv_up g 64 1 (g 64 1 + 1)) w) rfl ?_
                                      refine kx_bc (t := 109) rfl rfl (fun (m74 : b < 0) => ?_) (fun (m74 : ¬ (b < 0)) => ?_)
                                      · refine kx_st 2 (pc' := 112) (L' := [some (.ref 65), some (.int (nI k)), some (.int b), some (.int (nI j)), some (.int e), some (.int f), none]) (st' := [.int (-1000000001), .ref 65]) (h' := kv_wd (kv_up g 64 1 (g 64 1 + 1)) w) rfl ?_
                                        refine kx_call (z := 131) (as := [.ref 65, .int (-1000000001)]) (rest := []) (v := some (.int (-1000000001))) (h1 := kv_wd (kv_up (kv_up g 64 1 (g 64 1 + 1)) 70 1 ((kv_up g 64 1 (g 64 1 + 1)) 70 1 + 1)) w) rfl (ev_errs (d := 898) (-1000000001) 1 (by decide) (by decide)) ?_
                                        refine kx_st 0 (pc' := 115) (L' := [some (.ref 65), some (.int (nI k)), some (.int b), some (.int (nI j)), some (.int e), some (.int f), none]) (st' := [.int (-1000000001)]) (h' := kv_wd (kv_up (kv_up g 64 1 (g 64 1 + 1)) 70 1 ((kv_up g 64 1 (g 64 1 + 1)) 70 1 + 1)) w) rfl ?_
                                        refine kx_ret (v := some (.int (-1000000001))) rfl ?_
                                        exact ⟨rfl, _, _, rfl, kx_Rl_e hR⟩
                                      · refine kx_st 0 (pc' := 77) (L' := [some (.ref 65), some (.int (nI k)), some (.int b), some (.int (nI j)), some (.int e), some (.int f), none]) (st' := []) (h' := kv_wd (kv_up g 64 1 (g 64 1 + 1)) w) rfl ?_
                                        refine kx_st 1 (pc' := 79) (L' := [some (.ref 65), some (.int (nI k)), some (.int b), some (.int (nI j)), some (.int e), some (.int f), none]) (st' := [.int e]) (h' := kv_wd (kv_up g 64 1 (g 64 1 + 1)) w) rfl ?_
                                        refine kx_bc (t := 109) rfl rfl (fun (m79 : e < 0) => ?_) (fun (m79 : ¬ (e < 0)) => ?_)
                                        · refine kx_st 2 (pc' := 112) (L' := [some (.ref 65), some (.int (nI k)), some (.int b), some (.int (nI j)), some (.int e), some (.int f), none]) (st' := [.int (-1000000001), .ref 65]) (h' := kv_wd (kv_up g 64 1 (g 64 1 + 1)) w) rfl ?_
                                          refine kx_call (z := 131) (as := [.ref 65, .int (-1000000001)]) (rest := []) (v := some (.int (-1000000001))) (h1 := kv_wd (kv_up (kv_up g 64 1 (g 64 1 + 1)) 70 1 ((kv_up g 64 1 (g 64 1 + 1)) 70 1 + 1)) w) rfl (ev_errs (d := 898) (-1000000001) 1 (by decide) (by decide)) ?_
                                          refine kx_st 0 (pc' := 115) (L' := [some (.ref 65), some (.int (nI k)), some (.int b), some (.int (nI j)), some (.int e), some (.int f), none]) (st' := [.int (-1000000001)]) (h' := kv_wd (kv_up (kv_up g 64 1 (g 64 1 + 1)) 70 1 ((kv_up g 64 1 (g 64 1 + 1)) 70 1 + 1)) w) rfl ?_
                                          refine kx_ret (v := some (.int (-1000000001))) rfl ?_
                                          exact ⟨rfl, _, _, rfl, kx_Rl_e hR⟩
                                        · refine kx_st 0 (pc' := 82) (L' := [some (.ref 65), some (.int (nI k)), some (.int b), some (.int (nI j)), some (.int e), some (.int f), none]) (st' := []) (h' := kv_wd (kv_up g 64 1 (g 64 1 + 1)) w) rfl ?_
                                          refine kx_st 4 (pc' := 88) (L' := [some (.ref 65), some (.int (nI k)), some (.int b), some (.int (nI j)), some (.int e), some (.int f), none]) (st' := [.int (nI k), .ref 72, .int b]) (h' := kv_wd (kv_up g 64 1 (g 64 1 + 1)) w) rfl ?_
                                          refine kx_ia (k := k) rfl rfl (by decide) rfl (by omega) (by decide) ?_
                                          refine kx_st 2 (pc' := 92) (L' := [some (.ref 65), some (.int (nI k)), some (.int b), some (.int (nI j)), some (.int e), some (.int f), none]) (st' := [.int (((kv_up g 64 1 (g 64 1 + 1)) 72 k) - f), .int b]) (h' := kv_wd (kv_up g 64 1 (g 64 1 + 1)) w) rfl ?_
                                          refine kx_bi (t := 109) rfl rfl (fun (m92 : ((kv_up g 64 1 (g 64 1 + 1)) 72 k) - f < b) => ?_) (fun (m92 : ¬ (((kv_up g 64 1 (g 64 1 + 1)) 72 k) - f < b)) => ?_)
                                          · refine kx_st 2 (pc' := 112) (L' := [some (.ref 65), some (.int (nI k)), some (.int b), some (.int (nI j)), some (.int e), some (.int f), none]) (st' := [.int (-1000000001), .ref 65]) (h' := kv_wd (kv_up g 64 1 (g 64 1 + 1)) w) rfl ?_
                                            refine kx_call (z := 131) (as := [.ref 65, .int (-1000000001)]) (rest := []) (v := some (.int (-1000000001))) (h1 := kv_wd (kv_up (kv_up g 64 1 (g 64 1 + 1)) 70 1 ((kv_up g 64 1 (g 64 1 + 1)) 70 1 + 1)) w) rfl (ev_errs (d := 898) (-1000000001) 1 (by decide) (by decide)) ?_
                                            refine kx_st 0 (pc' := 115) (L' := [some (.ref 65), some (.int (nI k)), some (.int b), some (.int (nI j)), some (.int e), some (.int f), none]) (st' := [.int (-1000000001)]) (h' := kv_wd (kv_up (kv_up g 64 1 (g 64 1 + 1)) 70 1 ((kv_up g 64 1 (g 64 1 + 1)) 70 1 + 1)) w) rfl ?_
                                            refine kx_ret (v := some (.int (-1000000001))) rfl ?_
                                            exact ⟨rfl, _, _, rfl, kx_Rl_e hR⟩
                                          · refine kx_st 0 (pc' := 95) (L' := [some (.ref 65), some (.int (nI k)), some (.int b), some (.int (nI j)), some (.int e), some (.int f), none]) (st' := []) (h' := kv_wd (kv_up g 64 1 (g 64 1 + 1)) w) rfl ?_
                                            refine kx_st 4 (pc' := 102) (L' := [some (.ref 65), some (.int (nI k)), some (.int b), some (.int (nI j)), some (.int e), some (.int f), none]) (st' := [.int (nI j), .ref 72, .int e]) (h' := kv_wd (kv_up g 64 1 (g 64 1 + 1)) w) rfl ?_
                                            refine kx_ia (k := j) rfl rfl (by decide) rfl (by omega) (by decide) ?_
                                            refine kx_st 2 (pc' := 106) (L' := [some (.ref 65), some (.int (nI k)), some (.int b), some (.int (nI j)), some (.int e), some (.int f), none]) (st' := [.int (((kv_up g 64 1 (g 64 1 + 1)) 72 j) - f), .int e]) (h' := kv_wd (kv_up g 64 1 (g 64 1 + 1)) w) rfl ?_
                                            refine kx_bi (t := 116) rfl rfl (fun (m106 : e ≤ ((kv_up g 64 1 (g 64 1 + 1)) 72 j) - f) => ?_) (fun (m106 : ¬ (e ≤ ((kv_up g 64 1 (g 64 1 + 1)) 72 j) - f)) => ?_)
                                            · exact absurd ⟨m70, m79, kx_part2 y40 m70 m79 (show ¬ nI y - f < e by have z_ : e ≤ g 72 j - f := m106; rw [y2] at z_; exact Int32.not_lt.mpr z_), show ¬ nI y - f < e by have z_ : e ≤ g 72 j - f := m106; rw [y2] at z_; exact Int32.not_lt.mpr z_⟩ p2
                                            · refine kx_st 0 (pc' := 109) (L' := [some (.ref 65), some (.int (nI k)), some (.int b), some (.int (nI j)), some (.int e), some (.int f), none]) (st' := []) (h' := kv_wd (kv_up g 64 1 (g 64 1 + 1)) w) rfl ?_
                                              refine kx_st 2 (pc' := 112) (L' := [some (.ref 65), some (.int (nI k)), some (.int b), some (.int (nI j)), some (.int e), some (.int f), none]) (st' := [.int (-1000000001), .ref 65]) (h' := kv_wd (kv_up g 64 1 (g 64 1 + 1)) w) rfl ?_
                                              refine kx_call (z := 131) (as := [.ref 65, .int (-1000000001)]) (rest := []) (v := some (.int (-1000000001))) (h1 := kv_wd (kv_up (kv_up g 64 1 (g 64 1 + 1)) 70 1 ((kv_up g 64 1 (g 64 1 + 1)) 70 1 + 1)) w) rfl (ev_errs (d := 898) (-1000000001) 1 (by decide) (by decide)) ?_
                                              refine kx_st 0 (pc' := 115) (L' := [some (.ref 65), some (.int (nI k)), some (.int b), some (.int (nI j)), some (.int e), some (.int f), none]) (st' := [.int (-1000000001)]) (h' := kv_wd (kv_up (kv_up g 64 1 (g 64 1 + 1)) 70 1 ((kv_up g 64 1 (g 64 1 + 1)) 70 1 + 1)) w) rfl ?_
                                              refine kx_ret (v := some (.int (-1000000001))) rfl ?_
                                              exact ⟨rfl, _, _, rfl, kx_Rl_e hR⟩
                                  · exact absurd hq m58
                                · exact absurd (Classical.not_not.mp m36) hb2
                            · exact absurd hC m11
                    · exact absurd (by rw [s1, u1]; exact hq) h62
                  · exact absurd (u1.symm.trans (Classical.not_not.mp h43)) hb2
            · refine kx_two (by decide) (Nat.le_of_ble_eq_true rfl) (by decide) (Nat.le_of_ble_eq_true rfl) ?_
              refine kx_st 0 (pc' := 0) (L' := [some (.ref 0), some (.int (nI k)), some (.int b), some (.int (nI j)), some (.int e), some (.int f), none, none]) (st' := []) (h' := kv_wd g w) rfl ?_
              refine kx_st 2 (pc' := 2) (L' := [some (.ref 0), some (.int (nI k)), some (.int b), some (.int (nI j)), some (.int e), some (.int f), none, none]) (st' := [.int (nI k), .ref 0]) (h' := kv_wd g w) rfl ?_
              refine kx_call (z := 127) (as := [.ref 0, .int (nI k)]) (rest := []) (v := some (.ref (56 + 2 * k))) (h1 := kv_wd g w) rfl (ev_sheetAt (d := 898) q k hk4) ?_
              refine kx_st 0 (pc' := 5) (L' := [some (.ref 0), some (.int (nI k)), some (.int b), some (.int (nI j)), some (.int e), some (.int f), none, none]) (st' := [.ref (56 + 2 * k)]) (h' := kv_wd g w) rfl ?_
              refine kx_st 3 (pc' := 9) (L' := [some (.ref 0), some (.int (nI k)), some (.int b), some (.int (nI j)), some (.int e), some (.int f), some (.ref (56 + 2 * k)), none]) (st' := [.int (nI j), .ref 0]) (h' := kv_wd g w) rfl ?_
              refine kx_call (z := 127) (as := [.ref 0, .int (nI j)]) (rest := []) (v := some (.ref (56 + 2 * j))) (h1 := kv_wd g w) rfl (ev_sheetAt (d := 898) q j hj4) ?_
              refine kx_st 0 (pc' := 12) (L' := [some (.ref 0), some (.int (nI k)), some (.int b), some (.int (nI j)), some (.int e), some (.int f), some (.ref (56 + 2 * k)), none]) (st' := [.ref (56 + 2 * j)]) (h' := kv_wd g w) rfl ?_
              refine kx_st 2 (pc' := 16) (L' := [some (.ref 0), some (.int (nI k)), some (.int b), some (.int (nI j)), some (.int e), some (.int f), some (.ref (56 + 2 * k)), some (.ref (56 + 2 * j))]) (st' := [.ref (56 + 2 * k)]) (h' := kv_wd g w) rfl ?_
              refine kx_st 1 (pc' := 19) (L' := [some (.ref 0), some (.int (nI k)), some (.int b), some (.int (nI j)), some (.int e), some (.int f), some (.ref (56 + 2 * k)), some (.ref (56 + 2 * j))]) (st' := []) (h' := kv_wd g w) rfl ?_
              refine kx_st 1 (pc' := 21) (L' := [some (.ref 0), some (.int (nI k)), some (.int b), some (.int (nI j)), some (.int e), some (.int f), some (.ref (56 + 2 * k)), some (.ref (56 + 2 * j))]) (st' := [.ref (56 + 2 * j)]) (h' := kv_wd g w) rfl ?_
              refine kx_st 1 (pc' := 30) (L' := [some (.ref 0), some (.int (nI k)), some (.int b), some (.int (nI j)), some (.int e), some (.int f), some (.ref (56 + 2 * k)), some (.ref (56 + 2 * j))]) (st' := []) (h' := kv_wd g w) rfl ?_
              refine kx_st 1 (pc' := 32) (L' := [some (.ref 0), some (.int (nI k)), some (.int b), some (.int (nI j)), some (.int e), some (.int f), some (.ref (56 + 2 * k)), some (.ref (56 + 2 * j))]) (st' := [.ref (56 + 2 * k)]) (h' := kv_wd g w) rfl ?_
              refine kx_gf (i := 254) (k := 0) (v := .int (g (56 + 2 * k) 0)) rfl rfl (by have := (kv_st_h hk4).1; omega) ((kv_st_h hk4).2.1 _ _) rfl ?_
              refine kx_bc (t := 46) rfl rfl (fun (h35 : g (56 + 2 * k) 0 = 0) => ?_) (fun (h35 : ¬ (g (56 + 2 * k) 0 = 0)) => ?_)
              · exact absurd (s1.symm.trans h35) hb
              · refine kx_st 0 (pc' := 38) (L' := [some (.ref 0), some (.int (nI k)), some (.int b), some (.int (nI j)), some (.int e), some (.int f), some (.ref (56 + 2 * k)), some (.ref (56 + 2 * j))]) (st' := []) (h' := kv_wd g w) rfl ?_
                refine kx_st 1 (pc' := 40) (L' := [some (.ref 0), some (.int (nI k)), some (.int b), some (.int (nI j)), some (.int e), some (.int f), some (.ref (56 + 2 * k)), some (.ref (56 + 2 * j))]) (st' := [.ref (56 + 2 * j)]) (h' := kv_wd g w) rfl ?_
                refine kx_gf (i := 254) (k := 0) (v := .int (g (56 + 2 * j) 0)) rfl rfl (by have := (kv_st_h hj4).1; omega) ((kv_st_h hj4).2.1 _ _) rfl ?_
                refine kx_bc (t := 52) rfl rfl (fun (h43 : ¬ g (56 + 2 * j) 0 = 0) => ?_) (fun (h43 : ¬ (¬ g (56 + 2 * j) 0 = 0)) => ?_)
                · refine kx_st 1 (pc' := 54) (L' := [some (.ref 0), some (.int (nI k)), some (.int b), some (.int (nI j)), some (.int e), some (.int f), some (.ref (56 + 2 * k)), some (.ref (56 + 2 * j))]) (st' := [.ref (56 + 2 * k)]) (h' := kv_wd g w) rfl ?_
                  refine kx_gf (i := 254) (k := 0) (v := .int (g (56 + 2 * k) 0)) rfl rfl (by have := (kv_st_h hk4).1; omega) ((kv_st_h hk4).2.1 _ _) rfl ?_
                  refine kx_st 1 (pc' := 59) (L' := [some (.ref 0), some (.int (nI k)), some (.int b), some (.int (nI j)), some (.int e), some (.int f), some (.ref (56 + 2 * k)), some (.ref (56 + 2 * j))]) (st' := [.ref (56 + 2 * j), .int (g (56 + 2 * k) 0)]) (h' := kv_wd g w) rfl ?_
                  refine kx_gf (i := 254) (k := 0) (v := .int (g (56 + 2 * j) 0)) rfl rfl (by have := (kv_st_h hj4).1; omega) ((kv_st_h hj4).2.1 _ _) rfl ?_
                  refine kx_bi (t := 71) rfl rfl (fun (h62 : g (56 + 2 * k) 0 = g (56 + 2 * j) 0) => ?_) (fun (h62 : ¬ (g (56 + 2 * k) 0 = g (56 + 2 * j) 0)) => ?_)
                  · refine kx_st 3 (pc' := 76) (L' := [some (.ref 0), some (.int (nI k)), some (.int b), some (.int (nI j)), some (.int e), some (.int f), some (.ref (56 + 2 * k)), some (.ref (56 + 2 * j))]) (st' := [.int f, .int b, .ref (56 + 2 * k)]) (h' := kv_wd g w) rfl ?_
                    refine kx_call (z := 58) (as := [.ref (56 + 2 * k), .int b, .int f]) (rest := []) (v := some (.int (kx_b (¬ f < 0 ∧ ¬ b < 0 ∧ ¬ g (56 + 2 * k) 1 < f ∧ ¬ g (56 + 2 * k) 1 - f < b)))) (h1 := kv_wd g w) (kx_cv (b := 56 + 2 * k) (A := [.int b, .int f]) (rest := []) rfl rfl rfl rfl (Nat.le_of_ble_eq_true rfl) (by have := (kv_st_h hk4).1; omega) ((kv_st_h hk4).2.1 _ _)) (ev_hasPart (d := 898) k hk4 b f) ?_
                    refine kx_st 0 (pc' := 79) (L' := [some (.ref 0), some (.int (nI k)), some (.int b), some (.int (nI j)), some (.int e), some (.int f), some (.ref (56 + 2 * k)), some (.ref (56 + 2 * j))]) (st' := [.int (kx_b (¬ f < 0 ∧ ¬ b < 0 ∧ ¬ g (56 + 2 * k) 1 < f ∧ ¬ g (56 + 2 * k) 1 - f < b))]) (h' := kv_wd g w) rfl ?_
                    refine kx_be (t := 94) rfl rfl (fun (h79 : ¬ (¬ f < 0 ∧ ¬ b < 0 ∧ ¬ g (56 + 2 * k) 1 < f ∧ ¬ g (56 + 2 * k) 1 - f < b)) => ?_) (fun (h79 : (¬ f < 0 ∧ ¬ b < 0 ∧ ¬ g (56 + 2 * k) 1 < f ∧ ¬ g (56 + 2 * k) 1 - f < b)) => ?_)
                    · refine kx_st 2 (pc' := 96) (L' := [some (.ref 0), some (.int (nI k)), some (.int b), some (.int (nI j)), some (.int e), some (.int f), some (.ref (56 + 2 * k)), some (.ref (56 + 2 * j))]) (st' := [.int 1, .ref 0]) (h' := kv_wd g w) rfl ?_
                      refine kx_call (z := 123) (as := [.ref 0, .int 1]) (rest := []) (v := some (.int (-1000000000 - nI 1))) (h1 := kv_wd (kv_up g 64 1 (g 64 1 + 1)) w) rfl (ev_error (d := 898) 1 (by decide) (by decide)) ?_
                      refine kx_st 0 (pc' := 99) (L' := [some (.ref 0), some (.int (nI k)), some (.int b), some (.int (nI j)), some (.int e), some (.int f), some (.ref (56 + 2 * k)), some (.ref (56 + 2 * j))]) (st' := [.int (-1000000000 - nI 1)]) (h' := kv_wd (kv_up g 64 1 (g 64 1 + 1)) w) rfl ?_
                      refine kx_ret (v := some (.int (-1000000000 - nI 1))) rfl ?_
                      refine ⟨_, _, _, rfl, rfl, ?_⟩
                      refine kx_st 0 (pc' := 0) (L' := [some (.ref 65), some (.int (nI k)), some (.int b), some (.int (nI j)), some (.int e), some (.int f), none]) (st' := []) (h' := kv_wd (kv_up g 64 1 (g 64 1 + 1)) w) rfl ?_
                      refine kx_st 1 (pc' := 1) (L' := [some (.ref 65), some (.int (nI k)), some (.int b), some (.int (nI j)), some (.int e), some (.int f), none]) (st' := [.int (nI k)]) (h' := kv_wd (kv_up g 64 1 (g 64 1 + 1)) w) rfl ?_
                      refine kx_call (z := 200) (as := [.int (nI k)]) (rest := []) (v := some (.int (kx_b (0 ≤ nI k ∧ nI k ≤ 3)))) (h1 := kv_wd (kv_up g 64 1 (g 64 1 + 1)) w) rfl (ev_isSheet (d := 897) (nI k)) ?_
                      refine kx_st 0 (pc' := 4) (L' := [some (.ref 65), some (.int (nI k)), some (.int b), some (.int (nI j)), some (.int e), some (.int f), none]) (st' := [.int (kx_b (0 ≤ nI k ∧ nI k ≤ 3))]) (h' := kv_wd (kv_up g 64 1 (g 64 1 + 1)) w) rfl ?_
                      refine kx_be (t := 14) rfl rfl (fun (m4 : ¬ (0 ≤ nI k ∧ nI k ≤ 3)) => ?_) (fun (m4 : (0 ≤ nI k ∧ nI k ≤ 3)) => ?_)
                      · exact absurd hA m4
                      · refine kx_st 0 (pc' := 7) (L' := [some (.ref 65), some (.int (nI k)), some (.int b), some (.int (nI j)), some (.int e), some (.int f), none]) (st' := []) (h' := kv_wd (kv_up g 64 1 (g 64 1 + 1)) w) rfl ?_
                        refine kx_st 1 (pc' := 8) (L' := [some (.ref 65), some (.int (nI k)), some (.int b), some (.int (nI j)), some (.int e), some (.int f), none]) (st' := [.int (nI j)]) (h' := kv_wd (kv_up g 64 1 (g 64 1 + 1)) w) rfl ?_
                        refine kx_call (z := 200) (as := [.int (nI j)]) (rest := []) (v := some (.int (kx_b (0 ≤ nI j ∧ nI j ≤ 3)))) (h1 := kv_wd (kv_up g 64 1 (g 64 1 + 1)) w) rfl (ev_isSheet (d := 897) (nI j)) ?_
                        refine kx_st 0 (pc' := 11) (L' := [some (.ref 65), some (.int (nI k)), some (.int b), some (.int (nI j)), some (.int e), some (.int f), none]) (st' := [.int (kx_b (0 ≤ nI j ∧ nI j ≤ 3))]) (h' := kv_wd (kv_up g 64 1 (g 64 1 + 1)) w) rfl ?_
                        refine kx_bn (t := 21) rfl rfl (fun (m11 : (0 ≤ nI j ∧ nI j ≤ 3)) => ?_) (fun (m11 : ¬ (0 ≤ nI j ∧ nI j ≤ 3)) => ?_)
                        · refine kx_st 3 (pc' := 26) (L' := [some (.ref 65), some (.int (nI k)), some (.int b), some (.int (nI j)), some (.int e), some (.int f), none]) (st' := [.int (nI k), .ref 71]) (h' := kv_wd (kv_up g 64 1 (g 64 1 + 1)) w) rfl ?_
                          refine kx_ia (k := k) rfl rfl (by decide) rfl (by omega) (by decide) ?_
                          refine kx_bc (t := 39) rfl rfl (fun (m27 : (kv_up g 64 1 (g 64 1 + 1)) 71 k = 0) => ?_) (fun (m27 : ¬ ((kv_up g 64 1 (g 64 1 + 1)) 71 k = 0)) => ?_)
                          · exact absurd m27 hb
                          · refine kx_st 0 (pc' := 30) (L' := [some (.ref 65), some (.int (nI k)), some (.int b), some (.int (nI j)), some (.int e), some (.int f), none]) (st' := []) (h' := kv_wd (kv_up g 64 1 (g 64 1 + 1)) w) rfl ?_
                            refine kx_st 3 (pc' := 35) (L' := [some (.ref 65), some (.int (nI k)), some (.int b), some (.int (nI j)), some (.int e), some (.int f), none]) (st' := [.int (nI j), .ref 71]) (h' := kv_wd (kv_up g 64 1 (g 64 1 + 1)) w) rfl ?_
                            refine kx_ia (k := j) rfl rfl (by decide) rfl (by omega) (by decide) ?_
                            refine kx_bc (t := 46) rfl rfl (fun (m36 : ¬ (kv_up g 64 1 (g 64 1 + 1)) 71 j = 0) => ?_) (fun (m36 : ¬ (¬ (kv_up g 64 1 (g 64 1 + 1)) 71 j = 0)) => ?_)
                            · refine kx_st 3 (pc' := 51) (L' := [some (.ref 65), some (.int (nI k)), some (.int b), some (.int (nI j)), some (.int e), some (.int f), none]) (st' := [.int (nI k), .ref 71]) (h' := kv_wd (kv_up g 64 1 (g 64 1 + 1)) w) rfl ?_
                              refine kx_ia (k := k) rfl rfl (by decide) rfl (by omega) (by decide) ?_
                              refine kx_st 3 (pc' := 57) (L' := [some (.ref 65), some (.int (nI k)), some (.int b), some (.int (nI j)), some (.int e), some (.int f), none]) (st' := [.int (nI j), .ref 71, .int ((kv_up g 64 1 (g 64 1 + 1)) 71 k)]) (h' := kv_wd (kv_up g 64 1 (g 64 1 + 1)) w) rfl ?_
                              refine kx_ia (k := j) rfl rfl (by decide) rfl (by omega) (by decide) ?_
                              refine kx_bi (t := 68) rfl rfl (fun (m58 : (kv_up g 64 1 (g 64 1 + 1)) 71 k = (kv_up g 64 1 (g 64 1 + 1)) 71 j) => ?_) (fun (m58 : ¬ ((kv_up g 64 1 (g 64 1 + 1)) 71 k = (kv_up g 64 1 (g 64 1 + 1)) 71 j)) => ?_)
                              · refine kx_st 1 (pc' := 70) (L' := [some (.ref 65), some (.int (nI k)), some (.int b), some (.int (nI j)), some (.int e), some (.int f), none]) (st' := [.int f]) (h' := kv_wd (kv_up g 64 1 (g 64 1 + 1)) w) rfl ?_
                                refine kx_bc (t := 109) rfl rfl (fun (m70 : f < 0) => ?_) (fun (m70 : ¬ (f < 0)) => ?_)
                                · refine kx_st 2 (pc' := 112) (L' := [some (.ref 65), some (.int (nI k)), some (.int b), some (.int (nI j)), some (.int e), some (.int f), none]) (st' := [.int (-1000000001), .ref 65]) (h' := kv_wd (kv_up g 64 1 (g 64 1 + 1)) w) rfl ?_
                                  refine kx_call (z := 131) (as := [.ref 65, .int (-1000000001)]) (rest := []) (v := some (.int (-1000000001))) (h1 := kv_wd (kv_up (kv_up g 64 1 (g 64 1 + 1)) 70 1 ((kv_up g 64 1 (g 64 1 + 1)) 70 1 + 1)) w) rfl (ev_errs (d := 898) (-1000000001) 1 (by decide) (by decide)) ?_
                                  refine kx_st 0 (pc' := 115) (L' := [some (.ref 65), some (.int (nI k)), some (.int b), some (.int (nI j)), some (.int e), some (.int f), none]) (st' := [.int (-1000000001)]) (h' := kv_wd (kv_up (kv_up g 64 1 (g 64 1 + 1)) 70 1 ((kv_up g 64 1 (g 64 1 + 1)) 70 1 + 1)) w) rfl ?_
                                  refine kx_ret (v := some (.int (-1000000001))) rfl ?_
                                  exact ⟨rfl, _, _, rfl, kx_Rl_e hR⟩
                                · refine kx_st 0 (pc' := 73) (L' := [some (.ref 65), some (.int (nI k)), some (.int b), some (.int (nI j)), some (.int e), some (.int f), none]) (st' := []) (h' := kv_wd (kv_up g 64 1 (g 64 1 + 1)) w) rfl ?_
                                  refine kx_st 1 (pc' := 74) (L' := [some (.ref 65), some (.int (nI k)), some (.int b), some (.int (nI j)), some (.int e), some (.int f), none]) (st' := [.int b]) (h' := kv_wd (kv_up g 64 1 (g 64 1 + 1)) w) rfl ?_
                                  refine kx_bc (t := 109) rfl rfl (fun (m74 : b < 0) => ?_) (fun (m74 : ¬ (b < 0)) => ?_)
                                  · refine kx_st 2 (pc' := 112) (L' := [some (.ref 65), some (.int (nI k)), some (.int b), some (.int (nI j)), some (.int e), some (.int f), none]) (st' := [.int (-1000000001), .ref 65]) (h' := kv_wd (kv_up g 64 1 (g 64 1 + 1)) w) rfl ?_
                                    refine kx_call (z := 131) (as := [.ref 65, .int (-1000000001)]) (rest := []) (v := some (.int (-1000000001))) (h1 := kv_wd (kv_up (kv_up g 64 1 (g 64 1 + 1)) 70 1 ((kv_up g 64 1 (g 64 1 + 1)) 70 1 + 1)) w) rfl (ev_errs (d := 898) (-1000000001) 1 (by decide) (by decide)) ?_
                                    refine kx_st 0 (pc' := 115) (L' := [some (.ref 65), some (.int (nI k)), some (.int b), some (.int (nI j)), some (.int e), some (.int f), none]) (st' := [.int (-1000000001)]) (h' := kv_wd (kv_up (kv_up g 64 1 (g 64 1 + 1)) 70 1 ((kv_up g 64 1 (g 64 1 + 1)) 70 1 + 1)) w) rfl ?_
                                    refine kx_ret (v := some (.int (-1000000001))) rfl ?_
                                    exact ⟨rfl, _, _, rfl, kx_Rl_e hR⟩
                                  · refine kx_st 0 (pc' := 77) (L' := [some (.ref 65), some (.int (nI k)), some (.int b), some (.int (nI j)), some (.int e), some (.int f), none]) (st' := []) (h' := kv_wd (kv_up g 64 1 (g 64 1 + 1)) w) rfl ?_
                                    refine kx_st 1 (pc' := 79) (L' := [some (.ref 65), some (.int (nI k)), some (.int b), some (.int (nI j)), some (.int e), some (.int f), none]) (st' := [.int e]) (h' := kv_wd (kv_up g 64 1 (g 64 1 + 1)) w) rfl ?_
                                    refine kx_bc (t := 109) rfl rfl (fun (m79 : e < 0) => ?_) (fun (m79 : ¬ (e < 0)) => ?_)
                                    · refine kx_st 2 (pc' := 112) (L' := [some (.ref 65), some (.int (nI k)), some (.int b), some (.int (nI j)), some (.int e), some (.int f), none]) (st' := [.int (-1000000001), .ref 65]) (h' := kv_wd (kv_up g 64 1 (g 64 1 + 1)) w) rfl ?_
                                      refine kx_call (z := 131) (as := [.ref 65, .int (-1000000001)]) (rest := []) (v := some (.int (-1000000001))) (h1 := kv_wd (kv_up (kv_up g 64 1 (g 64 1 + 1)) 70 1 ((kv_up g 64 1 (g 64 1 + 1)) 70 1 + 1)) w) rfl (ev_errs (d := 898) (-1000000001) 1 (by decide) (by decide)) ?_
                                      refine kx_st 0 (pc' := 115) (L' := [some (.ref 65), some (.int (nI k)), some (.int b), some (.int (nI j)), some (.int e), some (.int f), none]) (st' := [.int (-1000000001)]) (h' := kv_wd (kv_up (kv_up g 64 1 (g 64 1 + 1)) 70 1 ((kv_up g 64 1 (g 64 1 + 1)) 70 1 + 1)) w) rfl ?_
                                      refine kx_ret (v := some (.int (-1000000001))) rfl ?_
                                      exact ⟨rfl, _, _, rfl, kx_Rl_e hR⟩
                                    · refine kx_st 0 (pc' := 82) (L' := [some (.ref 65), some (.int (nI k)), some (.int b), some (.int (nI j)), some (.int e), some (.int f), none]) (st' := []) (h' := kv_wd (kv_up g 64 1 (g 64 1 + 1)) w) rfl ?_
                                      refine kx_st 4 (pc' := 88) (L' := [some (.ref 65), some (.int (nI k)), some (.int b), some (.int (nI j)), some (.int e), some (.int f), none]) (st' := [.int (nI k), .ref 72, .int b]) (h' := kv_wd (kv_up g 64 1 (g 64 1 + 1)) w) rfl ?_
                                      refine kx_ia (k := k) rfl rfl (by decide) rfl (by omega) (by decide) ?_
                                      refine kx_st 2 (pc' := 92) (L' := [some (.ref 65), some (.int (nI k)), some (.int b), some (.int (nI j)), some (.int e), some (.int f), none]) (st' := [.int (((kv_up g 64 1 (g 64 1 + 1)) 72 k) - f), .int b]) (h' := kv_wd (kv_up g 64 1 (g 64 1 + 1)) w) rfl ?_
                                      refine kx_bi (t := 109) rfl rfl (fun (m92 : ((kv_up g 64 1 (g 64 1 + 1)) 72 k) - f < b) => ?_) (fun (m92 : ¬ (((kv_up g 64 1 (g 64 1 + 1)) 72 k) - f < b)) => ?_)
                                      · refine kx_st 2 (pc' := 112) (L' := [some (.ref 65), some (.int (nI k)), some (.int b), some (.int (nI j)), some (.int e), some (.int f), none]) (st' := [.int (-1000000001), .ref 65]) (h' := kv_wd (kv_up g 64 1 (g 64 1 + 1)) w) rfl ?_
                                        refine kx_call (z := 131) (as := [.ref 65, .int (-1000000001)]) (rest := []) (v := some (.int (-1000000001))) (h1 := kv_wd (kv_up (kv_up g 64 1 (g 64 1 + 1)) 70 1 ((kv_up g 64 1 (g 64 1 + 1)) 70 1 + 1)) w) rfl (ev_errs (d := 898) (-1000000001) 1 (by decide) (by decide)) ?_
                                        refine kx_st 0 (pc' := 115) (L' := [some (.ref 65), some (.int (nI k)), some (.int b), some (.int (nI j)), some (.int e), some (.int f), none]) (st' := [.int (-1000000001)]) (h' := kv_wd (kv_up (kv_up g 64 1 (g 64 1 + 1)) 70 1 ((kv_up g 64 1 (g 64 1 + 1)) 70 1 + 1)) w) rfl ?_
                                        refine kx_ret (v := some (.int (-1000000001))) rfl ?_
                                        exact ⟨rfl, _, _, rfl, kx_Rl_e hR⟩
                                      · refine kx_st 0 (pc' := 95) (L' := [some (.ref 65), some (.int (nI k)), some (.int b), some (.int (nI j)), some (.int e), some (.int f), none]) (st' := []) (h' := kv_wd (kv_up g 64 1 (g 64 1 + 1)) w) rfl ?_
                                        refine kx_st 4 (pc' := 102) (L' := [some (.ref 65), some (.int (nI k)), some (.int b), some (.int (nI j)), some (.int e), some (.int f), none]) (st' := [.int (nI j), .ref 72, .int e]) (h' := kv_wd (kv_up g 64 1 (g 64 1 + 1)) w) rfl ?_
                                        refine kx_ia (k := j) rfl rfl (by decide) rfl (by omega) (by decide) ?_
                                        refine kx_st 2 (pc' := 106) (L' := [some (.ref 65), some (.int (nI k)), some (.int b), some (.int (nI j)), some (.int e), some (.int f), none]) (st' := [.int (((kv_up g 64 1 (g 64 1 + 1)) 72 j) - f), .int e]) (h' := kv_wd (kv_up g 64 1 (g 64 1 + 1)) w) rfl ?_
                                        refine kx_bi (t := 116) rfl rfl (fun (m106 : e ≤ ((kv_up g 64 1 (g 64 1 + 1)) 72 j) - f) => ?_) (fun (m106 : ¬ (e ≤ ((kv_up g 64 1 (g 64 1 + 1)) 72 j) - f)) => ?_)
                                        · exact absurd ⟨m70, m74, kx_part2 n40 m70 m74 (show ¬ nI n - f < b by have z_ : ¬ g 72 k - f < b := m92; rw [n2] at z_; exact z_), show ¬ nI n - f < b by have z_ : ¬ g 72 k - f < b := m92; rw [n2] at z_; exact z_⟩ p1
                                        · refine kx_st 0 (pc' := 109) (L' := [some (.ref 65), some (.int (nI k)), some (.int b), some (.int (nI j)), some (.int e), some (.int f), none]) (st' := []) (h' := kv_wd (kv_up g 64 1 (g 64 1 + 1)) w) rfl ?_
                                          refine kx_st 2 (pc' := 112) (L' := [some (.ref 65), some (.int (nI k)), some (.int b), some (.int (nI j)), some (.int e), some (.int f), none]) (st' := [.int (-1000000001), .ref 65]) (h' := kv_wd (kv_up g 64 1 (g 64 1 + 1)) w) rfl ?_
                                          refine kx_call (z := 131) (as := [.ref 65, .int (-1000000001)]) (rest := []) (v := some (.int (-1000000001))) (h1 := kv_wd (kv_up (kv_up g 64 1 (g 64 1 + 1)) 70 1 ((kv_up g 64 1 (g 64 1 + 1)) 70 1 + 1)) w) rfl (ev_errs (d := 898) (-1000000001) 1 (by decide) (by decide)) ?_
                                          refine kx_st 0 (pc' := 115) (L' := [some (.ref 65), some (.int (nI k)), some (.int b), some (.int (nI j)), some (.int e), some (.int f), none]) (st' := [.int (-1000000001)]) (h' := kv_wd (kv_up (kv_up g 64 1 (g 64 1 + 1)) 70 1 ((kv_up g 64 1 (g 64 1 + 1)) 70 1 + 1)) w) rfl ?_
                                          refine kx_ret (v := some (.int (-1000000001))) rfl ?_
                                          exact ⟨rfl, _, _, rfl, kx_Rl_e hR⟩
                              · exact absurd hq m58
                            · exact absurd (Classical.not_not.mp m36) hb2
                        · exact absurd hC m11
                    · exact absurd (by rw [s2, n2] at h79; exact h79) p1
                  · exact absurd (by rw [s1, u1]; exact hq) h62
                · exact absurd (u1.symm.trans (Classical.not_not.mp h43)) hb2
          · refine kx_two (by decide) (Nat.le_of_ble_eq_true rfl) (by decide) (Nat.le_of_ble_eq_true rfl) ?_
            refine kx_st 0 (pc' := 0) (L' := [some (.ref 0), some (.int (nI k)), some (.int b), some (.int (nI j)), some (.int e), some (.int f), none, none]) (st' := []) (h' := kv_wd g w) rfl ?_
            refine kx_st 2 (pc' := 2) (L' := [some (.ref 0), some (.int (nI k)), some (.int b), some (.int (nI j)), some (.int e), some (.int f), none, none]) (st' := [.int (nI k), .ref 0]) (h' := kv_wd g w) rfl ?_
            refine kx_call (z := 127) (as := [.ref 0, .int (nI k)]) (rest := []) (v := some (.ref (56 + 2 * k))) (h1 := kv_wd g w) rfl (ev_sheetAt (d := 898) q k hk4) ?_
            refine kx_st 0 (pc' := 5) (L' := [some (.ref 0), some (.int (nI k)), some (.int b), some (.int (nI j)), some (.int e), some (.int f), none, none]) (st' := [.ref (56 + 2 * k)]) (h' := kv_wd g w) rfl ?_
            refine kx_st 3 (pc' := 9) (L' := [some (.ref 0), some (.int (nI k)), some (.int b), some (.int (nI j)), some (.int e), some (.int f), some (.ref (56 + 2 * k)), none]) (st' := [.int (nI j), .ref 0]) (h' := kv_wd g w) rfl ?_
            refine kx_call (z := 127) (as := [.ref 0, .int (nI j)]) (rest := []) (v := some (.ref (56 + 2 * j))) (h1 := kv_wd g w) rfl (ev_sheetAt (d := 898) q j hj4) ?_
            refine kx_st 0 (pc' := 12) (L' := [some (.ref 0), some (.int (nI k)), some (.int b), some (.int (nI j)), some (.int e), some (.int f), some (.ref (56 + 2 * k)), none]) (st' := [.ref (56 + 2 * j)]) (h' := kv_wd g w) rfl ?_
            refine kx_st 2 (pc' := 16) (L' := [some (.ref 0), some (.int (nI k)), some (.int b), some (.int (nI j)), some (.int e), some (.int f), some (.ref (56 + 2 * k)), some (.ref (56 + 2 * j))]) (st' := [.ref (56 + 2 * k)]) (h' := kv_wd g w) rfl ?_
            refine kx_st 1 (pc' := 19) (L' := [some (.ref 0), some (.int (nI k)), some (.int b), some (.int (nI j)), some (.int e), some (.int f), some (.ref (56 + 2 * k)), some (.ref (56 + 2 * j))]) (st' := []) (h' := kv_wd g w) rfl ?_
            refine kx_st 1 (pc' := 21) (L' := [some (.ref 0), some (.int (nI k)), some (.int b), some (.int (nI j)), some (.int e), some (.int f), some (.ref (56 + 2 * k)), some (.ref (56 + 2 * j))]) (st' := [.ref (56 + 2 * j)]) (h' := kv_wd g w) rfl ?_
            refine kx_st 1 (pc' := 30) (L' := [some (.ref 0), some (.int (nI k)), some (.int b), some (.int (nI j)), some (.int e), some (.int f), some (.ref (56 + 2 * k)), some (.ref (56 + 2 * j))]) (st' := []) (h' := kv_wd g w) rfl ?_
            refine kx_st 1 (pc' := 32) (L' := [some (.ref 0), some (.int (nI k)), some (.int b), some (.int (nI j)), some (.int e), some (.int f), some (.ref (56 + 2 * k)), some (.ref (56 + 2 * j))]) (st' := [.ref (56 + 2 * k)]) (h' := kv_wd g w) rfl ?_
            refine kx_gf (i := 254) (k := 0) (v := .int (g (56 + 2 * k) 0)) rfl rfl (by have := (kv_st_h hk4).1; omega) ((kv_st_h hk4).2.1 _ _) rfl ?_
            refine kx_bc (t := 46) rfl rfl (fun (h35 : g (56 + 2 * k) 0 = 0) => ?_) (fun (h35 : ¬ (g (56 + 2 * k) 0 = 0)) => ?_)
            · exact absurd (s1.symm.trans h35) hb
            · refine kx_st 0 (pc' := 38) (L' := [some (.ref 0), some (.int (nI k)), some (.int b), some (.int (nI j)), some (.int e), some (.int f), some (.ref (56 + 2 * k)), some (.ref (56 + 2 * j))]) (st' := []) (h' := kv_wd g w) rfl ?_
              refine kx_st 1 (pc' := 40) (L' := [some (.ref 0), some (.int (nI k)), some (.int b), some (.int (nI j)), some (.int e), some (.int f), some (.ref (56 + 2 * k)), some (.ref (56 + 2 * j))]) (st' := [.ref (56 + 2 * j)]) (h' := kv_wd g w) rfl ?_
              refine kx_gf (i := 254) (k := 0) (v := .int (g (56 + 2 * j) 0)) rfl rfl (by have := (kv_st_h hj4).1; omega) ((kv_st_h hj4).2.1 _ _) rfl ?_
              refine kx_bc (t := 52) rfl rfl (fun (h43 : ¬ g (56 + 2 * j) 0 = 0) => ?_) (fun (h43 : ¬ (¬ g (56 + 2 * j) 0 = 0)) => ?_)
              · refine kx_st 1 (pc' := 54) (L' := [some (.ref 0), some (.int (nI k)), some (.int b), some (.int (nI j)), some (.int e), some (.int f), some (.ref (56 + 2 * k)), some (.ref (56 + 2 * j))]) (st' := [.ref (56 + 2 * k)]) (h' := kv_wd g w) rfl ?_
                refine kx_gf (i := 254) (k := 0) (v := .int (g (56 + 2 * k) 0)) rfl rfl (by have := (kv_st_h hk4).1; omega) ((kv_st_h hk4).2.1 _ _) rfl ?_
                refine kx_st 1 (pc' := 59) (L' := [some (.ref 0), some (.int (nI k)), some (.int b), some (.int (nI j)), some (.int e), some (.int f), some (.ref (56 + 2 * k)), some (.ref (56 + 2 * j))]) (st' := [.ref (56 + 2 * j), .int (g (56 + 2 * k) 0)]) (h' := kv_wd g w) rfl ?_
                refine kx_gf (i := 254) (k := 0) (v := .int (g (56 + 2 * j) 0)) rfl rfl (by have := (kv_st_h hj4).1; omega) ((kv_st_h hj4).2.1 _ _) rfl ?_
                refine kx_bi (t := 71) rfl rfl (fun (h62 : g (56 + 2 * k) 0 = g (56 + 2 * j) 0) => ?_) (fun (h62 : ¬ (g (56 + 2 * k) 0 = g (56 + 2 * j) 0)) => ?_)
                · exact absurd (by rw [s1, u1] at h62; exact h62) hq
                · refine kx_st 0 (pc' := 65) (L' := [some (.ref 0), some (.int (nI k)), some (.int b), some (.int (nI j)), some (.int e), some (.int f), some (.ref (56 + 2 * k)), some (.ref (56 + 2 * j))]) (st' := []) (h' := kv_wd g w) rfl ?_
                  refine kx_st 2 (pc' := 67) (L' := [some (.ref 0), some (.int (nI k)), some (.int b), some (.int (nI j)), some (.int e), some (.int f), some (.ref (56 + 2 * k)), some (.ref (56 + 2 * j))]) (st' := [.int 5, .ref 0]) (h' := kv_wd g w) rfl ?_
                  refine kx_call (z := 123) (as := [.ref 0, .int 5]) (rest := []) (v := some (.int (-1000000000 - nI 5))) (h1 := kv_wd (kv_up g 64 5 (g 64 5 + 1)) w) rfl (ev_error (d := 898) 5 (by decide) (by decide)) ?_
                  refine kx_st 0 (pc' := 70) (L' := [some (.ref 0), some (.int (nI k)), some (.int b), some (.int (nI j)), some (.int e), some (.int f), some (.ref (56 + 2 * k)), some (.ref (56 + 2 * j))]) (st' := [.int (-1000000000 - nI 5)]) (h' := kv_wd (kv_up g 64 5 (g 64 5 + 1)) w) rfl ?_
                  refine kx_ret (v := some (.int (-1000000000 - nI 5))) rfl ?_
                  refine ⟨_, _, _, rfl, rfl, ?_⟩
                  refine kx_st 0 (pc' := 0) (L' := [some (.ref 65), some (.int (nI k)), some (.int b), some (.int (nI j)), some (.int e), some (.int f), none]) (st' := []) (h' := kv_wd (kv_up g 64 5 (g 64 5 + 1)) w) rfl ?_
                  refine kx_st 1 (pc' := 1) (L' := [some (.ref 65), some (.int (nI k)), some (.int b), some (.int (nI j)), some (.int e), some (.int f), none]) (st' := [.int (nI k)]) (h' := kv_wd (kv_up g 64 5 (g 64 5 + 1)) w) rfl ?_
                  refine kx_call (z := 200) (as := [.int (nI k)]) (rest := []) (v := some (.int (kx_b (0 ≤ nI k ∧ nI k ≤ 3)))) (h1 := kv_wd (kv_up g 64 5 (g 64 5 + 1)) w) rfl (ev_isSheet (d := 897) (nI k)) ?_
                  refine kx_st 0 (pc' := 4) (L' := [some (.ref 65), some (.int (nI k)), some (.int b), some (.int (nI j)), some (.int e), some (.int f), none]) (st' := [.int (kx_b (0 ≤ nI k ∧ nI k ≤ 3))]) (h' := kv_wd (kv_up g 64 5 (g 64 5 + 1)) w) rfl ?_
                  refine kx_be (t := 14) rfl rfl (fun (m4 : ¬ (0 ≤ nI k ∧ nI k ≤ 3)) => ?_) (fun (m4 : (0 ≤ nI k ∧ nI k ≤ 3)) => ?_)
                  · exact absurd hA m4
                  · refine kx_st 0 (pc' := 7) (L' := [some (.ref 65), some (.int (nI k)), some (.int b), some (.int (nI j)), some (.int e), some (.int f), none]) (st' := []) (h' := kv_wd (kv_up g 64 5 (g 64 5 + 1)) w) rfl ?_
                    refine kx_st 1 (pc' := 8) (L' := [some (.ref 65), some (.int (nI k)), some (.int b), some (.int (nI j)), some (.int e), some (.int f), none]) (st' := [.int (nI j)]) (h' := kv_wd (kv_up g 64 5 (g 64 5 + 1)) w) rfl ?_
                    refine kx_call (z := 200) (as := [.int (nI j)]) (rest := []) (v := some (.int (kx_b (0 ≤ nI j ∧ nI j ≤ 3)))) (h1 := kv_wd (kv_up g 64 5 (g 64 5 + 1)) w) rfl (ev_isSheet (d := 897) (nI j)) ?_
                    refine kx_st 0 (pc' := 11) (L' := [some (.ref 65), some (.int (nI k)), some (.int b), some (.int (nI j)), some (.int e), some (.int f), none]) (st' := [.int (kx_b (0 ≤ nI j ∧ nI j ≤ 3))]) (h' := kv_wd (kv_up g 64 5 (g 64 5 + 1)) w) rfl ?_
                    refine kx_bn (t := 21) rfl rfl (fun (m11 : (0 ≤ nI j ∧ nI j ≤ 3)) => ?_) (fun (m11 : ¬ (0 ≤ nI j ∧ nI j ≤ 3)) => ?_)
                    · refine kx_st 3 (pc' := 26) (L' := [some (.ref 65), some (.int (nI k)), some (.int b), some (.int (nI j)), some (.int e), some (.int f), none]) (st' := [.int (nI k), .ref 71]) (h' := kv_wd (kv_up g 64 5 (g 64 5 + 1)) w) rfl ?_
                      refine kx_ia (k := k) rfl rfl (by decide) rfl (by omega) (by decide) ?_
                      refine kx_bc (t := 39) rfl rfl (fun (m27 : (kv_up g 64 5 (g 64 5 + 1)) 71 k = 0) => ?_) (fun (m27 : ¬ ((kv_up g 64 5 (g 64 5 + 1)) 71 k = 0)) => ?_)
                      · exact absurd m27 hb
                      · refine kx_st 0 (pc' := 30) (L' := [some (.ref 65), some (.int (nI k)), some (.int b), some (.int (nI j)), some (.int e), some (.int f), none]) (st' := []) (h' := kv_wd (kv_up g 64 5 (g 64 5 + 1)) w) rfl ?_
                        refine kx_st 3 (pc' := 35) (L' := [some (.ref 65), some (.int (nI k)), some (.int b), some (.int (nI j)), some (.int e), some (.int f), none]) (st' := [.int (nI j), .ref 71]) (h' := kv_wd (kv_up g 64 5 (g 64 5 + 1)) w) rfl ?_
                        refine kx_ia (k := j) rfl rfl (by decide) rfl (by omega) (by decide) ?_
                        refine kx_bc (t := 46) rfl rfl (fun (m36 : ¬ (kv_up g 64 5 (g 64 5 + 1)) 71 j = 0) => ?_) (fun (m36 : ¬ (¬ (kv_up g 64 5 (g 64 5 + 1)) 71 j = 0)) => ?_)
                        · refine kx_st 3 (pc' := 51) (L' := [some (.ref 65), some (.int (nI k)), some (.int b), some (.int (nI j)), some (.int e), some (.int f), none]) (st' := [.int (nI k), .ref 71]) (h' := kv_wd (kv_up g 64 5 (g 64 5 + 1)) w) rfl ?_
                          refine kx_ia (k := k) rfl rfl (by decide) rfl (by omega) (by decide) ?_
                          refine kx_st 3 (pc' := 57) (L' := [some (.ref 65), some (.int (nI k)), some (.int b), some (.int (nI j)), some (.int e), some (.int f), none]) (st' := [.int (nI j), .ref 71, .int ((kv_up g 64 5 (g 64 5 + 1)) 71 k)]) (h' := kv_wd (kv_up g 64 5 (g 64 5 + 1)) w) rfl ?_
                          refine kx_ia (k := j) rfl rfl (by decide) rfl (by omega) (by decide) ?_
                          refine kx_bi (t := 68) rfl rfl (fun (m58 : (kv_up g 64 5 (g 64 5 + 1)) 71 k = (kv_up g 64 5 (g 64 5 + 1)) 71 j) => ?_) (fun (m58 : ¬ ((kv_up g 64 5 (g 64 5 + 1)) 71 k = (kv_up g 64 5 (g 64 5 + 1)) 71 j)) => ?_)
                          · exact absurd m58 hq
                          · refine kx_st 0 (pc' := 61) (L' := [some (.ref 65), some (.int (nI k)), some (.int b), some (.int (nI j)), some (.int e), some (.int f), none]) (st' := []) (h' := kv_wd (kv_up g 64 5 (g 64 5 + 1)) w) rfl ?_
                            refine kx_st 2 (pc' := 64) (L' := [some (.ref 65), some (.int (nI k)), some (.int b), some (.int (nI j)), some (.int e), some (.int f), none]) (st' := [.int (-1000000005), .ref 65]) (h' := kv_wd (kv_up g 64 5 (g 64 5 + 1)) w) rfl ?_
                            refine kx_call (z := 131) (as := [.ref 65, .int (-1000000005)]) (rest := []) (v := some (.int (-1000000005))) (h1 := kv_wd (kv_up (kv_up g 64 5 (g 64 5 + 1)) 70 5 ((kv_up g 64 5 (g 64 5 + 1)) 70 5 + 1)) w) rfl (ev_errs (d := 898) (-1000000005) 5 (by decide) (by decide)) ?_
                            refine kx_st 0 (pc' := 67) (L' := [some (.ref 65), some (.int (nI k)), some (.int b), some (.int (nI j)), some (.int e), some (.int f), none]) (st' := [.int (-1000000005)]) (h' := kv_wd (kv_up (kv_up g 64 5 (g 64 5 + 1)) 70 5 ((kv_up g 64 5 (g 64 5 + 1)) 70 5 + 1)) w) rfl ?_
                            refine kx_ret (v := some (.int (-1000000005))) rfl ?_
                            exact ⟨rfl, _, _, rfl, kx_Rl_e hR⟩
                        · exact absurd (Classical.not_not.mp m36) hb2
                    · exact absurd hC m11
              · exact absurd (u1.symm.trans (Classical.not_not.mp h43)) hb2
    · refine kx_two (by decide) (Nat.le_of_ble_eq_true rfl) (by decide) (Nat.le_of_ble_eq_true rfl) ?_
      refine kx_st 0 (pc' := 0) (L' := [some (.ref 0), some (.int (nI k)), some (.int b), some (.int c), some (.int e), some (.int f), none, none]) (st' := []) (h' := kv_wd g w) rfl ?_
      refine kx_st 2 (pc' := 2) (L' := [some (.ref 0), some (.int (nI k)), some (.int b), some (.int c), some (.int e), some (.int f), none, none]) (st' := [.int (nI k), .ref 0]) (h' := kv_wd g w) rfl ?_
      refine kx_call (z := 127) (as := [.ref 0, .int (nI k)]) (rest := []) (v := some (.ref (56 + 2 * k))) (h1 := kv_wd g w) rfl (ev_sheetAt (d := 898) q k hk4) ?_
      refine kx_st 0 (pc' := 5) (L' := [some (.ref 0), some (.int (nI k)), some (.int b), some (.int c), some (.int e), some (.int f), none, none]) (st' := [.ref (56 + 2 * k)]) (h' := kv_wd g w) rfl ?_
      refine kx_st 3 (pc' := 9) (L' := [some (.ref 0), some (.int (nI k)), some (.int b), some (.int c), some (.int e), some (.int f), some (.ref (56 + 2 * k)), none]) (st' := [.int c, .ref 0]) (h' := kv_wd g w) rfl ?_
      refine kx_call (z := 127) (as := [.ref 0, .int c]) (rest := []) (v := some (.null)) (h1 := kv_wd g w) rfl (ev_sheetAt_n (d := 898) c hC) ?_
      refine kx_st 0 (pc' := 12) (L' := [some (.ref 0), some (.int (nI k)), some (.int b), some (.int c), some (.int e), some (.int f), some (.ref (56 + 2 * k)), none]) (st' := [.null]) (h' := kv_wd g w) rfl ?_
      refine kx_st 2 (pc' := 16) (L' := [some (.ref 0), some (.int (nI k)), some (.int b), some (.int c), some (.int e), some (.int f), some (.ref (56 + 2 * k)), some (.null)]) (st' := [.ref (56 + 2 * k)]) (h' := kv_wd g w) rfl ?_
      refine kx_st 1 (pc' := 19) (L' := [some (.ref 0), some (.int (nI k)), some (.int b), some (.int c), some (.int e), some (.int f), some (.ref (56 + 2 * k)), some (.null)]) (st' := []) (h' := kv_wd g w) rfl ?_
      refine kx_st 1 (pc' := 21) (L' := [some (.ref 0), some (.int (nI k)), some (.int b), some (.int c), some (.int e), some (.int f), some (.ref (56 + 2 * k)), some (.null)]) (st' := [.null]) (h' := kv_wd g w) rfl ?_
      refine kx_st 1 (pc' := 24) (L' := [some (.ref 0), some (.int (nI k)), some (.int b), some (.int c), some (.int e), some (.int f), some (.ref (56 + 2 * k)), some (.null)]) (st' := []) (h' := kv_wd g w) rfl ?_
      refine kx_st 2 (pc' := 26) (L' := [some (.ref 0), some (.int (nI k)), some (.int b), some (.int c), some (.int e), some (.int f), some (.ref (56 + 2 * k)), some (.null)]) (st' := [.int 1, .ref 0]) (h' := kv_wd g w) rfl ?_
      refine kx_call (z := 123) (as := [.ref 0, .int 1]) (rest := []) (v := some (.int (-1000000000 - nI 1))) (h1 := kv_wd (kv_up g 64 1 (g 64 1 + 1)) w) rfl (ev_error (d := 898) 1 (by decide) (by decide)) ?_
      refine kx_st 0 (pc' := 29) (L' := [some (.ref 0), some (.int (nI k)), some (.int b), some (.int c), some (.int e), some (.int f), some (.ref (56 + 2 * k)), some (.null)]) (st' := [.int (-1000000000 - nI 1)]) (h' := kv_wd (kv_up g 64 1 (g 64 1 + 1)) w) rfl ?_
      refine kx_ret (v := some (.int (-1000000000 - nI 1))) rfl ?_
      refine ⟨_, _, _, rfl, rfl, ?_⟩
      refine kx_st 0 (pc' := 0) (L' := [some (.ref 65), some (.int (nI k)), some (.int b), some (.int c), some (.int e), some (.int f), none]) (st' := []) (h' := kv_wd (kv_up g 64 1 (g 64 1 + 1)) w) rfl ?_
      refine kx_st 1 (pc' := 1) (L' := [some (.ref 65), some (.int (nI k)), some (.int b), some (.int c), some (.int e), some (.int f), none]) (st' := [.int (nI k)]) (h' := kv_wd (kv_up g 64 1 (g 64 1 + 1)) w) rfl ?_
      refine kx_call (z := 200) (as := [.int (nI k)]) (rest := []) (v := some (.int (kx_b (0 ≤ nI k ∧ nI k ≤ 3)))) (h1 := kv_wd (kv_up g 64 1 (g 64 1 + 1)) w) rfl (ev_isSheet (d := 897) (nI k)) ?_
      refine kx_st 0 (pc' := 4) (L' := [some (.ref 65), some (.int (nI k)), some (.int b), some (.int c), some (.int e), some (.int f), none]) (st' := [.int (kx_b (0 ≤ nI k ∧ nI k ≤ 3))]) (h' := kv_wd (kv_up g 64 1 (g 64 1 + 1)) w) rfl ?_
      refine kx_be (t := 14) rfl rfl (fun (m4 : ¬ (0 ≤ nI k ∧ nI k ≤ 3)) => ?_) (fun (m4 : (0 ≤ nI k ∧ nI k ≤ 3)) => ?_)
      · exact absurd hA m4
      · refine kx_st 0 (pc' := 7) (L' := [some (.ref 65), some (.int (nI k)), some (.int b), some (.int c), some (.int e), some (.int f), none]) (st' := []) (h' := kv_wd (kv_up g 64 1 (g 64 1 + 1)) w) rfl ?_
        refine kx_st 1 (pc' := 8) (L' := [some (.ref 65), some (.int (nI k)), some (.int b), some (.int c), some (.int e), some (.int f), none]) (st' := [.int c]) (h' := kv_wd (kv_up g 64 1 (g 64 1 + 1)) w) rfl ?_
        refine kx_call (z := 200) (as := [.int c]) (rest := []) (v := some (.int (kx_b (0 ≤ c ∧ c ≤ 3)))) (h1 := kv_wd (kv_up g 64 1 (g 64 1 + 1)) w) rfl (ev_isSheet (d := 897) c) ?_
        refine kx_st 0 (pc' := 11) (L' := [some (.ref 65), some (.int (nI k)), some (.int b), some (.int c), some (.int e), some (.int f), none]) (st' := [.int (kx_b (0 ≤ c ∧ c ≤ 3))]) (h' := kv_wd (kv_up g 64 1 (g 64 1 + 1)) w) rfl ?_
        refine kx_bn (t := 21) rfl rfl (fun (m11 : (0 ≤ c ∧ c ≤ 3)) => ?_) (fun (m11 : ¬ (0 ≤ c ∧ c ≤ 3)) => ?_)
        · exact absurd m11 hC
        · refine kx_st 0 (pc' := 14) (L' := [some (.ref 65), some (.int (nI k)), some (.int b), some (.int c), some (.int e), some (.int f), none]) (st' := []) (h' := kv_wd (kv_up g 64 1 (g 64 1 + 1)) w) rfl ?_
          refine kx_st 2 (pc' := 17) (L' := [some (.ref 65), some (.int (nI k)), some (.int b), some (.int c), some (.int e), some (.int f), none]) (st' := [.int (-1000000001), .ref 65]) (h' := kv_wd (kv_up g 64 1 (g 64 1 + 1)) w) rfl ?_
          refine kx_call (z := 131) (as := [.ref 65, .int (-1000000001)]) (rest := []) (v := some (.int (-1000000001))) (h1 := kv_wd (kv_up (kv_up g 64 1 (g 64 1 + 1)) 70 1 ((kv_up g 64 1 (g 64 1 + 1)) 70 1 + 1)) w) rfl (ev_errs (d := 898) (-1000000001) 1 (by decide) (by decide)) ?_
          refine kx_st 0 (pc' := 20) (L' := [some (.ref 65), some (.int (nI k)), some (.int b), some (.int c), some (.int e), some (.int f), none]) (st' := [.int (-1000000001)]) (h' := kv_wd (kv_up (kv_up g 64 1 (g 64 1 + 1)) 70 1 ((kv_up g 64 1 (g 64 1 + 1)) 70 1 + 1)) w) rfl ?_
          refine kx_ret (v := some (.int (-1000000001))) rfl ?_
          exact ⟨rfl, _, _, rfl, kx_Rl_e hR⟩
  · by_cases hC : 0 ≤ c ∧ c ≤ 3
    · obtain ⟨j, hj3, rfl⟩ := kx_nIof (n := 3) hC.1 hC.2 (by omega)
      have hj4 : j < 4 := by omega
      refine kx_two (by decide) (Nat.le_of_ble_eq_true rfl) (by decide) (Nat.le_of_ble_eq_true rfl) ?_
      refine kx_st 0 (pc' := 0) (L' := [some (.ref 0), some (.int a), some (.int b), some (.int (nI j)), some (.int e), some (.int f), none, none]) (st' := []) (h' := kv_wd g w) rfl ?_
      refine kx_st 2 (pc' := 2) (L' := [some (.ref 0), some (.int a), some (.int b), some (.int (nI j)), some (.int e), some (.int f), none, none]) (st' := [.int a, .ref 0]) (h' := kv_wd g w) rfl ?_
      refine kx_call (z := 127) (as := [.ref 0, .int a]) (rest := []) (v := some (.null)) (h1 := kv_wd g w) rfl (ev_sheetAt_n (d := 898) a hA) ?_
      refine kx_st 0 (pc' := 5) (L' := [some (.ref 0), some (.int a), some (.int b), some (.int (nI j)), some (.int e), some (.int f), none, none]) (st' := [.null]) (h' := kv_wd g w) rfl ?_
      refine kx_st 3 (pc' := 9) (L' := [some (.ref 0), some (.int a), some (.int b), some (.int (nI j)), some (.int e), some (.int f), some (.null), none]) (st' := [.int (nI j), .ref 0]) (h' := kv_wd g w) rfl ?_
      refine kx_call (z := 127) (as := [.ref 0, .int (nI j)]) (rest := []) (v := some (.ref (56 + 2 * j))) (h1 := kv_wd g w) rfl (ev_sheetAt (d := 898) q j hj4) ?_
      refine kx_st 0 (pc' := 12) (L' := [some (.ref 0), some (.int a), some (.int b), some (.int (nI j)), some (.int e), some (.int f), some (.null), none]) (st' := [.ref (56 + 2 * j)]) (h' := kv_wd g w) rfl ?_
      refine kx_st 2 (pc' := 16) (L' := [some (.ref 0), some (.int a), some (.int b), some (.int (nI j)), some (.int e), some (.int f), some (.null), some (.ref (56 + 2 * j))]) (st' := [.null]) (h' := kv_wd g w) rfl ?_
      refine kx_st 1 (pc' := 24) (L' := [some (.ref 0), some (.int a), some (.int b), some (.int (nI j)), some (.int e), some (.int f), some (.null), some (.ref (56 + 2 * j))]) (st' := []) (h' := kv_wd g w) rfl ?_
      refine kx_st 2 (pc' := 26) (L' := [some (.ref 0), some (.int a), some (.int b), some (.int (nI j)), some (.int e), some (.int f), some (.null), some (.ref (56 + 2 * j))]) (st' := [.int 1, .ref 0]) (h' := kv_wd g w) rfl ?_
      refine kx_call (z := 123) (as := [.ref 0, .int 1]) (rest := []) (v := some (.int (-1000000000 - nI 1))) (h1 := kv_wd (kv_up g 64 1 (g 64 1 + 1)) w) rfl (ev_error (d := 898) 1 (by decide) (by decide)) ?_
      refine kx_st 0 (pc' := 29) (L' := [some (.ref 0), some (.int a), some (.int b), some (.int (nI j)), some (.int e), some (.int f), some (.null), some (.ref (56 + 2 * j))]) (st' := [.int (-1000000000 - nI 1)]) (h' := kv_wd (kv_up g 64 1 (g 64 1 + 1)) w) rfl ?_
      refine kx_ret (v := some (.int (-1000000000 - nI 1))) rfl ?_
      refine ⟨_, _, _, rfl, rfl, ?_⟩
      refine kx_st 0 (pc' := 0) (L' := [some (.ref 65), some (.int a), some (.int b), some (.int (nI j)), some (.int e), some (.int f), none]) (st' := []) (h' := kv_wd (kv_up g 64 1 (g 64 1 + 1)) w) rfl ?_
      refine kx_st 1 (pc' := 1) (L' := [some (.ref 65), some (.int a), some (.int b), some (.int (nI j)), some (.int e), some (.int f), none]) (st' := [.int a]) (h' := kv_wd (kv_up g 64 1 (g 64 1 + 1)) w) rfl ?_
      refine kx_call (z := 200) (as := [.int a]) (rest := []) (v := some (.int (kx_b (0 ≤ a ∧ a ≤ 3)))) (h1 := kv_wd (kv_up g 64 1 (g 64 1 + 1)) w) rfl (ev_isSheet (d := 897) a) ?_
      refine kx_st 0 (pc' := 4) (L' := [some (.ref 65), some (.int a), some (.int b), some (.int (nI j)), some (.int e), some (.int f), none]) (st' := [.int (kx_b (0 ≤ a ∧ a ≤ 3))]) (h' := kv_wd (kv_up g 64 1 (g 64 1 + 1)) w) rfl ?_
      refine kx_be (t := 14) rfl rfl (fun (m4 : ¬ (0 ≤ a ∧ a ≤ 3)) => ?_) (fun (m4 : (0 ≤ a ∧ a ≤ 3)) => ?_)
      · refine kx_st 2 (pc' := 17) (L' := [some (.ref 65), some (.int a), some (.int b), some (.int (nI j)), some (.int e), some (.int f), none]) (st' := [.int (-1000000001), .ref 65]) (h' := kv_wd (kv_up g 64 1 (g 64 1 + 1)) w) rfl ?_
        refine kx_call (z := 131) (as := [.ref 65, .int (-1000000001)]) (rest := []) (v := some (.int (-1000000001))) (h1 := kv_wd (kv_up (kv_up g 64 1 (g 64 1 + 1)) 70 1 ((kv_up g 64 1 (g 64 1 + 1)) 70 1 + 1)) w) rfl (ev_errs (d := 898) (-1000000001) 1 (by decide) (by decide)) ?_
        refine kx_st 0 (pc' := 20) (L' := [some (.ref 65), some (.int a), some (.int b), some (.int (nI j)), some (.int e), some (.int f), none]) (st' := [.int (-1000000001)]) (h' := kv_wd (kv_up (kv_up g 64 1 (g 64 1 + 1)) 70 1 ((kv_up g 64 1 (g 64 1 + 1)) 70 1 + 1)) w) rfl ?_
        refine kx_ret (v := some (.int (-1000000001))) rfl ?_
        exact ⟨rfl, _, _, rfl, kx_Rl_e hR⟩
      · exact absurd m4 hA
    · refine kx_two (by decide) (Nat.le_of_ble_eq_true rfl) (by decide) (Nat.le_of_ble_eq_true rfl) ?_
      refine kx_st 0 (pc' := 0) (L' := [some (.ref 0), some (.int a), some (.int b), some (.int c), some (.int e), some (.int f), none, none]) (st' := []) (h' := kv_wd g w) rfl ?_
      refine kx_st 2 (pc' := 2) (L' := [some (.ref 0), some (.int a), some (.int b), some (.int c), some (.int e), some (.int f), none, none]) (st' := [.int a, .ref 0]) (h' := kv_wd g w) rfl ?_
      refine kx_call (z := 127) (as := [.ref 0, .int a]) (rest := []) (v := some (.null)) (h1 := kv_wd g w) rfl (ev_sheetAt_n (d := 898) a hA) ?_
      refine kx_st 0 (pc' := 5) (L' := [some (.ref 0), some (.int a), some (.int b), some (.int c), some (.int e), some (.int f), none, none]) (st' := [.null]) (h' := kv_wd g w) rfl ?_
      refine kx_st 3 (pc' := 9) (L' := [some (.ref 0), some (.int a), some (.int b), some (.int c), some (.int e), some (.int f), some (.null), none]) (st' := [.int c, .ref 0]) (h' := kv_wd g w) rfl ?_
      refine kx_call (z := 127) (as := [.ref 0, .int c]) (rest := []) (v := some (.null)) (h1 := kv_wd g w) rfl (ev_sheetAt_n (d := 898) c hC) ?_
      refine kx_st 0 (pc' := 12) (L' := [some (.ref 0), some (.int a), some (.int b), some (.int c), some (.int e), some (.int f), some (.null), none]) (st' := [.null]) (h' := kv_wd g w) rfl ?_
      refine kx_st 2 (pc' := 16) (L' := [some (.ref 0), some (.int a), some (.int b), some (.int c), some (.int e), some (.int f), some (.null), some (.null)]) (st' := [.null]) (h' := kv_wd g w) rfl ?_
      refine kx_st 1 (pc' := 24) (L' := [some (.ref 0), some (.int a), some (.int b), some (.int c), some (.int e), some (.int f), some (.null), some (.null)]) (st' := []) (h' := kv_wd g w) rfl ?_
      refine kx_st 2 (pc' := 26) (L' := [some (.ref 0), some (.int a), some (.int b), some (.int c), some (.int e), some (.int f), some (.null), some (.null)]) (st' := [.int 1, .ref 0]) (h' := kv_wd g w) rfl ?_
      refine kx_call (z := 123) (as := [.ref 0, .int 1]) (rest := []) (v := some (.int (-1000000000 - nI 1))) (h1 := kv_wd (kv_up g 64 1 (g 64 1 + 1)) w) rfl (ev_error (d := 898) 1 (by decide) (by decide)) ?_
      refine kx_st 0 (pc' := 29) (L' := [some (.ref 0), some (.int a), some (.int b), some (.int c), some (.int e), some (.int f), some (.null), some (.null)]) (st' := [.int (-1000000000 - nI 1)]) (h' := kv_wd (kv_up g 64 1 (g 64 1 + 1)) w) rfl ?_
      refine kx_ret (v := some (.int (-1000000000 - nI 1))) rfl ?_
      refine ⟨_, _, _, rfl, rfl, ?_⟩
      refine kx_st 0 (pc' := 0) (L' := [some (.ref 65), some (.int a), some (.int b), some (.int c), some (.int e), some (.int f), none]) (st' := []) (h' := kv_wd (kv_up g 64 1 (g 64 1 + 1)) w) rfl ?_
      refine kx_st 1 (pc' := 1) (L' := [some (.ref 65), some (.int a), some (.int b), some (.int c), some (.int e), some (.int f), none]) (st' := [.int a]) (h' := kv_wd (kv_up g 64 1 (g 64 1 + 1)) w) rfl ?_
      refine kx_call (z := 200) (as := [.int a]) (rest := []) (v := some (.int (kx_b (0 ≤ a ∧ a ≤ 3)))) (h1 := kv_wd (kv_up g 64 1 (g 64 1 + 1)) w) rfl (ev_isSheet (d := 897) a) ?_
      refine kx_st 0 (pc' := 4) (L' := [some (.ref 65), some (.int a), some (.int b), some (.int c), some (.int e), some (.int f), none]) (st' := [.int (kx_b (0 ≤ a ∧ a ≤ 3))]) (h' := kv_wd (kv_up g 64 1 (g 64 1 + 1)) w) rfl ?_
      refine kx_be (t := 14) rfl rfl (fun (m4 : ¬ (0 ≤ a ∧ a ≤ 3)) => ?_) (fun (m4 : (0 ≤ a ∧ a ≤ 3)) => ?_)
      · refine kx_st 2 (pc' := 17) (L' := [some (.ref 65), some (.int a), some (.int b), some (.int c), some (.int e), some (.int f), none]) (st' := [.int (-1000000001), .ref 65]) (h' := kv_wd (kv_up g 64 1 (g 64 1 + 1)) w) rfl ?_
        refine kx_call (z := 131) (as := [.ref 65, .int (-1000000001)]) (rest := []) (v := some (.int (-1000000001))) (h1 := kv_wd (kv_up (kv_up g 64 1 (g 64 1 + 1)) 70 1 ((kv_up g 64 1 (g 64 1 + 1)) 70 1 + 1)) w) rfl (ev_errs (d := 898) (-1000000001) 1 (by decide) (by decide)) ?_
        refine kx_st 0 (pc' := 20) (L' := [some (.ref 65), some (.int a), some (.int b), some (.int c), some (.int e), some (.int f), none]) (st' := [.int (-1000000001)]) (h' := kv_wd (kv_up (kv_up g 64 1 (g 64 1 + 1)) 70 1 ((kv_up g 64 1 (g 64 1 + 1)) 70 1 + 1)) w) rfl ?_
        refine kx_ret (v := some (.int (-1000000001))) rfl ?_
        exact ⟨rfl, _, _, rfl, kx_Rl_e hR⟩
      · exact absurd m4 hA
end KP15
