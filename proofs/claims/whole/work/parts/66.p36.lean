/-! PAIR: text -/
theorem kx_Rl_text {g g' : kv_S} {w : kv_W} {i : Nat} (h : kx_Rl kx_L g w i) (e : ∀ b, b ≠ 1 → b ≠ 6 → b ≠ 7 → b ≠ 8 → b ≠ 9 → b ≠ 10 → b ≠ 11 → (b < 44 ∨ 52 < b) → b ≠ 65 → b ≠ 66 → b ≠ 68 → b ≠ 69 → g' b = g b) (e1 : ∀ k, k ≠ 8 → g' 1 k = g 1 k) (e18 : g' 1 8 = 0) (e65 : ∀ k, (k < 7 ∨ 14 < k) → g' 65 k = g 65 k) (e664 : g' 66 4 = 0) (e66 : ∀ j, j ≠ 4 → j ≠ 6 → j ≠ 7 → j < 168 → g' 66 j = g 66 j) (c6 : g' 6 0 = g 6 0) (c9 : g' 9 0 = g 9 0) (L0 : kx_L 0 (g' 6 2) (g' 7) (g' 66 6) (fun j => g' 66 (168 + j))) (L1 : kx_L 1 (g' 9 2) (g' 10) (g' 66 7) (fun j => g' 66 (218 + j))) : kx_Rl kx_L g' w (i + 1) := by
  have f : ∀ b, b ≠ 1 ∧ b ≠ 6 ∧ b ≠ 7 ∧ b ≠ 8 ∧ b ≠ 9 ∧ b ≠ 10 ∧ b ≠ 11 ∧ (b < 44 ∨ 52 < b) ∧ b ≠ 65 ∧ b ≠ 66 ∧ b ≠ 68 ∧ b ≠ 69 → g' b = g b := fun b z => e b z.1 z.2.1 z.2.2.1 z.2.2.2.1 z.2.2.2.2.1 z.2.2.2.2.2.1 z.2.2.2.2.2.2.1 z.2.2.2.2.2.2.2.1 z.2.2.2.2.2.2.2.2.1 z.2.2.2.2.2.2.2.2.2.1 z.2.2.2.2.2.2.2.2.2.2.1 z.2.2.2.2.2.2.2.2.2.2.2
  obtain ⟨Q, cu, ⟨H1, H2, H3, H4, H5, hz, -, -⟩, im, sh, tr, er⟩ := id h
  refine kx_Rl_hn h Q (fun b b1 b2 => f b (by omega)) (fun k hk => e65 k (by omega)) ⟨c6, c9⟩ ⟨?_, ?_, ?_, ?_, ?_, ?_, L0, L1⟩
  · exact kx_H1_cg (e1 0 (by omega)) (e1 1 (by omega)) (e1 4 (by omega)) (fun j hj => e66 j (by omega) (by omega) (by omega) (by omega)) (fun k c hk hc => by rw [kx_kn_at hk, kx_kn_at hk, f _ (by omega)]) H1
  · rw [f 3 (by omega), f 4 (by omega)]; exact kx_H2_cg (fun _ _ => rfl) (fun _ _ => rfl) (fun j hj => e66 j (by omega) (by omega) (by omega) (by omega)) H2
  · rw [f 2 (by omega)]; exact kx_H3_cg rfl (e66 0 (by omega) (by omega) (by omega) (by omega)) H3
  · exact ⟨0, by omega, e18, e664, fun j hj => by omega⟩
  · rw [f 13 (by omega)]; exact kx_H5_cg (e1 10 (by omega)) (fun _ _ => rfl) (fun j hj => e66 j (by omega) (by omega) (by omega) (by omega)) H5
  · rw [e1 11 (by omega), e66 1 (by omega) (by omega) (by omega) (by omega)]; exact hz
set_option maxRecDepth 100000 in
theorem lp_fault {E : kv_V} {d : Nat} {g : kv_S} {w : kv_W} (n : Nat) (n50 : n ≤ 50) (us : Int32) (hn : g 48 2 = nI n) {P : Option Value → kv_H → Prop} (hP : ∀ g1 : kv_S, ((∀ j, j < n → g1 52 j = g 12 j) ∧ ∀ b, b ≠ 52 → g1 b = g b) → kx_V E d 46 47 [some (.ref 48), some (.ref 12), some (.int (nI n)), some (.int us), some (.int (nI n))] [] (kv_wd g1 w) P) : ∀ (nz i : Nat) (g1 : kv_S), i + nz = n → ((∀ j, j < i → g1 52 j = g 12 j) ∧ ∀ b, b ≠ 52 → g1 b = g b) → kx_V E d 46 21 [some (.ref 48), some (.ref 12), some (.int (nI n)), some (.int us), some (.int (nI i))] [] (kv_wd g1 w) P := by
  intro nz
  induction nz with
  | zero =>
    intro i g1 hi h1
    have hkN : i = n := by omega
    have hn1 : g1 48 2 = nI n := by rw [h1.2 48 (by omega)]; exact hn
    refine kx_st 3 (pc' := 27) (L' := [some (.ref 48), some (.ref 12), some (.int (nI n)), some (.int us), some (.int (nI i))]) (st' := [.int (g1 48 2), .int (nI i)]) (h' := kv_wd g1 w) rfl ?_
    refine kx_bi (t := 47) rfl rfl (fun (h27 : g1 48 2 ≤ nI i) => ?_) (fun (h27 : ¬ (g1 48 2 ≤ nI i)) => ?_)
    · subst hkN
      exact hP g1 h1
    · exact absurd (by rw [hn1]; exact nI_le (by omega) (by omega)) h27
  | succ nz ih =>
    intro i g1 hi h1
    have hn1 : g1 48 2 = nI n := by rw [h1.2 48 (by omega)]; exact hn
    refine kx_st 3 (pc' := 27) (L' := [some (.ref 48), some (.ref 12), some (.int (nI n)), some (.int us), some (.int (nI i))]) (st' := [.int (g1 48 2), .int (nI i)]) (h' := kv_wd g1 w) rfl ?_
    refine kx_bi (t := 47) rfl rfl (fun (h27 : g1 48 2 ≤ nI i) => ?_) (fun (h27 : ¬ (g1 48 2 ≤ nI i)) => ?_)
    · exact absurd h27 (by rw [hn1]; exact nI_ge (a := i) (b := n) (by omega) (by omega))
    · refine kx_st 0 (pc' := 30) (L' := [some (.ref 48), some (.ref 12), some (.int (nI n)), some (.int us), some (.int (nI i))]) (st' := []) (h' := kv_wd g1 w) rfl ?_
      refine kx_st 5 (pc' := 39) (L' := [some (.ref 48), some (.ref 12), some (.int (nI n)), some (.int us), some (.int (nI i))]) (st' := [.int (nI i), .ref 12, .int (nI i), .ref 52]) (h' := kv_wd g1 w) rfl ?_
      refine kx_ia (k := i) rfl rfl (by decide) rfl (by omega) (by decide) ?_
      refine kx_is (k := i) rfl rfl (by decide) rfl (by omega) (by decide) ?_
      refine kx_st 2 (pc' := 21) (L' := [some (.ref 48), some (.ref 12), some (.int (nI n)), some (.int us), some (.int ((nI i) + 1))]) (st' := []) (h' := kv_wd (kv_up g1 52 i (g1 12 i)) w) rfl ?_
      rw [← nI_succ]
      refine ih (i + 1) _ (by omega) ⟨fun j hj => ?_, fun b hb => (kv_up_ne hb).trans (h1.2 b hb)⟩
      rw [kv_up_at]
      by_cases hji : j = i
      · rw [hji, kx_ups, h1.2 12 (by omega)]
      · rw [kx_upn hji]; exact h1.1 j (by omega)
set_option maxRecDepth 100000 in
theorem ev_clear {E : kv_V} {d : Nat} {g : kv_S} {w : kv_W}  : kv_ev E (d + 1) 37 [.ref 49] (kv_wd g w) none (kv_wd (kv_up g 49 2 0) w) := by
  refine kx_ev (d := d + 0) (by decide) (Nat.le_of_ble_eq_true rfl) ?_
  refine kx_st 0 (pc' := 0) (L' := [some (.ref 49)]) (st' := []) (h' := kv_wd g w) rfl ?_
  refine kx_st 2 (pc' := 2) (L' := [some (.ref 49)]) (st' := [.int 0, .ref 49]) (h' := kv_wd g w) rfl ?_
  refine kx_pf (i := 17) (k := 2) (x := 0) rfl rfl (by decide) rfl (Nat.le_of_ble_eq_true rfl) rfl rfl rfl ?_
  refine kx_ret (v := none) rfl ?_
  exact ⟨rfl, rfl⟩
set_option maxRecDepth 100000 in
theorem ev_fault0 {E : kv_V} {d : Nat} {g : kv_S} {w : kv_W} {tx : Nat → Int32} {n a1 : Nat} {ok : Bool} {cd : List Int32} (hE : E 1002 = some (1, 6, kv_NA)) (n50 : n ≤ 50) (ha1 : a1 ≤ n) (hx : kx_PX tx n 0 47 [.int 0, .int (nI 0)] (8 * (5 - 0) + 9) 0 ok a1 cd) (htx : ∀ j, j < n → g 12 j = tx j) : ∃ g' : kv_S, kv_ev E (d + 51) 46 [.ref 48, .ref 12, .int (nI n), .int 0] (kv_wd g w) (some (.int (if ok = true ∧ a1 = n then -1 else nI a1))) (kv_wd g' w) ∧ (∀ b, b ≠ 48 → b ≠ 49 → b ≠ 50 → b ≠ 52 → g' b = g b) ∧ (ok = true → g' 49 2 = nI cd.length ∧ ∀ j, j < cd.length → g' 50 j = cd.getD j 0) := by
  obtain ⟨v0, hf, he, rfl, g', rfl, hh⟩ := kx_evP (E := E) (d := d + 50) (y := 46) (h := kv_wd g w) (as := [.ref 48, .ref 12, .int (nI n), .int 0]) (P := fun v0 h => v0 = (some (.int (if ok = true ∧ a1 = n then -1 else nI a1)) : Option Value) ∧ ∃ g' : kv_S, h = kv_wd g' w ∧ (∀ b, b ≠ 48 → b ≠ 49 → b ≠ 50 → b ≠ 52 → g' b = g b) ∧ (ok = true → g' 49 2 = nI cd.length ∧ ∀ j, j < cd.length → g' 50 j = cd.getD j 0)) (by decide) (Nat.le_of_ble_eq_true rfl) (by
    refine kx_st 0 (pc' := 0) (L' := [some (.ref 48), some (.ref 12), some (.int (nI n)), some (.int 0), none]) (st' := []) (h' := kv_wd g w) rfl ?_
    refine kx_st 9 (pc' := 15) (L' := [some (.ref 48), some (.ref 12), some (.int (nI n)), some (.int 0), none]) (st' := [.int (if 50 < if 50 < nI n then 50 else nI n then 50 else if 50 < nI n then 50 else nI n), .ref 48]) (h' := kv_wd g w) rfl ?_
    rw [show (if 50 < if 50 < nI n then 50 else nI n then 50 else if 50 < nI n then 50 else nI n) = nI n from by rw [if_neg (show ¬ (50 : Int32) < nI n from nI_nlt (a := 50) (b := n) n50 (by omega)), if_neg (show ¬ (50 : Int32) < nI n from nI_nlt (a := 50) (b := n) n50 (by omega))]]
    refine kx_pf (i := 24) (k := 2) (x := (nI n)) rfl rfl (by decide) rfl (Nat.le_of_ble_eq_true rfl) rfl rfl rfl ?_
    refine kx_st 2 (pc' := 21) (L' := [some (.ref 48), some (.ref 12), some (.int (nI n)), some (.int 0), some (.int 0)]) (st' := []) (h' := kv_wd (kv_up g 48 2 (nI n)) w) rfl ?_
    refine lp_fault n n50 0 (g := kv_up g 48 2 (nI n)) rfl (fun g21 r21 => ?_) n 0 _ (by omega) ⟨fun j hj => by omega, fun _ _ => rfl⟩
    refine kx_st 0 (pc' := 47) (L' := [some (.ref 48), some (.ref 12), some (.int (nI n)), some (.int 0), some (.int (nI n))]) (st' := []) (h' := kv_wd g21 w) rfl ?_
    refine kx_st 2 (pc' := 49) (L' := [some (.ref 48), some (.ref 12), some (.int (nI n)), some (.int 0), some (.int (nI n))]) (st' := [.int 0, .ref 48]) (h' := kv_wd g21 w) rfl ?_
    refine kx_pf (i := 28) (k := 3) (x := 0) rfl rfl (by decide) rfl (Nat.le_of_ble_eq_true rfl) rfl rfl rfl ?_
    refine kx_st 2 (pc' := 54) (L' := [some (.ref 48), some (.ref 12), some (.int (nI n)), some (.int 0), some (.int (nI n))]) (st' := [.int 0, .ref 48]) (h' := kv_wd (kv_up g21 48 3 0) w) rfl ?_
    refine kx_pf (i := 31) (k := 4) (x := 0) rfl rfl (by decide) rfl (Nat.le_of_ble_eq_true rfl) rfl rfl rfl ?_
    refine kx_st 2 (pc' := 61) (L' := [some (.ref 48), some (.ref 12), some (.int (nI n)), some (.int 0), some (.int (nI n))]) (st' := [.ref 49]) (h' := kv_wd (kv_up (kv_up g21 48 3 0) 48 4 0) w) rfl ?_
    refine kx_call (z := 37) (as := [.ref 49]) (rest := []) (v := none) (h1 := kv_wd (kv_up (kv_up (kv_up g21 48 3 0) 48 4 0) 49 2 0) w) rfl (kx_ev_le (d := 0 + 1) (by omega) (ev_clear (d := 0))) ?_
    refine kx_st 0 (pc' := 64) (L' := [some (.ref 48), some (.ref 12), some (.int (nI n)), some (.int 0), some (.int (nI n))]) (st' := []) (h' := kv_wd (kv_up (kv_up (kv_up g21 48 3 0) 48 4 0) 49 2 0) w) rfl ?_
    refine kx_st 3 (pc' := 67) (L' := [some (.ref 48), some (.ref 12), some (.int (nI n)), some (.int 0), some (.int (nI n))]) (st' := [.int 0, .int 0, .ref 48]) (h' := kv_wd (kv_up (kv_up (kv_up g21 48 3 0) 48 4 0) 49 2 0) w) rfl ?_
    have hs : kx_CS tx n 0 (kv_up (kv_up (kv_up g21 48 3 0) 48 4 0) 49 2 0) 0 0 := ⟨by show g21 48 2 = _; rw [r21.2 48 (by omega)]; rfl, rfl, rfl, fun j hj => (r21.1 j hj).trans (htx j hj), rfl⟩
    obtain ⟨g67, e67, r67⟩ := hx E d _ w 0 hE hs (by omega)
    have R2 : g67 48 2 = nI n := r67.2.1.1.trans hs.1
    have RB : ∀ b, b ≠ 48 → b ≠ 49 → b ≠ 50 → b ≠ 52 → g67 b = g b := fun b b1 b2 b3 b4 => (r67.2.2.1 b b1 b2 b3).trans (by rw [kv_up_ne b2, kv_up_ne b1, kv_up_ne b1, r21.2 b b4]; exact kv_up_ne b1)
    have RC : ok = true → g67 49 2 = nI cd.length ∧ ∀ j, j < cd.length → g67 50 j = cd.getD j 0 := fun z => ⟨by rw [(r67.2.2.2 z).1, Nat.zero_add], fun j hj => by have y := (r67.2.2.2 z).2.2 j hj; rw [Nat.zero_add] at y; exact y⟩
    refine kx_call (z := 47) (as := [.ref 48, .int 0, .int 0]) (rest := []) (v := some (.int (kx_ob ok))) (h1 := kv_wd g67 w) rfl (kx_ev_le (by omega) e67) ?_
    refine kx_st 0 (pc' := 70) (L' := [some (.ref 48), some (.ref 12), some (.int (nI n)), some (.int 0), some (.int (nI n))]) (st' := [.int (kx_ob ok)]) (h' := kv_wd g67 w) rfl ?_
    refine kx_bc (t := 88) rfl rfl (fun (h70 : kx_ob ok = 0) => ?_) (fun (h70 : ¬ (kx_ob ok = 0)) => ?_)
    · refine kx_st 2 (pc' := 92) (L' := [some (.ref 48), some (.ref 12), some (.int (nI n)), some (.int 0), some (.int (nI n))]) (st' := [.int (g67 48 3)]) (h' := kv_wd g67 w) rfl ?_
      refine kx_ret (v := some (.int (g67 48 3))) rfl ?_
      exact ⟨by rw [if_neg (show ¬ (ok = true ∧ a1 = n) from fun z => absurd h70 (by rw [z.1]; decide)), r67.1], g67, rfl, RB, RC⟩
    · refine kx_st 0 (pc' := 73) (L' := [some (.ref 48), some (.ref 12), some (.int (nI n)), some (.int 0), some (.int (nI n))]) (st' := []) (h' := kv_wd g67 w) rfl ?_
      refine kx_st 4 (pc' := 81) (L' := [some (.ref 48), some (.ref 12), some (.int (nI n)), some (.int 0), some (.int (nI n))]) (st' := [.int (g67 48 2), .int (g67 48 3)]) (h' := kv_wd g67 w) rfl ?_
      refine kx_bi (t := 88) rfl rfl (fun (h81 : ¬ g67 48 3 = g67 48 2) => ?_) (fun (h81 : ¬ (¬ g67 48 3 = g67 48 2)) => ?_)
      · refine kx_st 2 (pc' := 92) (L' := [some (.ref 48), some (.ref 12), some (.int (nI n)), some (.int 0), some (.int (nI n))]) (st' := [.int (g67 48 3)]) (h' := kv_wd g67 w) rfl ?_
        refine kx_ret (v := some (.int (g67 48 3))) rfl ?_
        exact ⟨by rw [if_neg (show ¬ (ok = true ∧ a1 = n) from fun z => h81 (by rw [r67.1, R2, z.2])), r67.1], g67, rfl, RB, RC⟩
      · refine kx_st 0 (pc' := 84) (L' := [some (.ref 48), some (.ref 12), some (.int (nI n)), some (.int 0), some (.int (nI n))]) (st' := []) (h' := kv_wd g67 w) rfl ?_
        refine kx_st 2 (pc' := 92) (L' := [some (.ref 48), some (.ref 12), some (.int (nI n)), some (.int 0), some (.int (nI n))]) (st' := [.int (-1)]) (h' := kv_wd g67 w) rfl ?_
        refine kx_ret (v := some (.int (-1))) rfl ?_
        exact ⟨by rw [if_pos (show ok = true ∧ a1 = n from ⟨kx_okt (fun z => h70 (by rw [z]; rfl)), kx_nI_inj (by omega) (by omega) (by rw [← r67.1, ← R2]; exact Classical.not_not.mp h81)⟩)], g67, rfl, RB, RC⟩)
  exact ⟨g', he, hh⟩
set_option maxRecDepth 100000 in
theorem ev_lcopyD0 {E : kv_V} {d : Nat} {g : kv_S} {w : kv_W}  : kv_ev E (d + 1) 36 [.ref 6, .ref 49] (kv_wd g w) none (kv_wd (kv_up (kv_uf g 7 (va_cpy (g 50) (g 7) 0 0 50)) 6 2 (g 49 2)) w) := by
  refine kx_ev (d := d + 0) (by decide) (Nat.le_of_ble_eq_true rfl) ?_
  refine kx_st 0 (pc' := 0) (L' := [some (.ref 6), some (.ref 49)]) (st' := []) (h' := kv_wd g w) rfl ?_
  refine kx_st 9 (pc' := 15) (L' := [some (.ref 6), some (.ref 49)]) (st' := [.int 50, .int 0, .ref 7, .int 0, .ref 50]) (h' := kv_wd g w) rfl ?_
  refine kx_cp (sp := 0) (dp := 0) (n := 50) rfl rfl rfl rfl rfl rfl (by decide) (by decide) rfl rfl rfl (by omega) (by omega) (by decide) (by decide) (Nat.le_of_ble_eq_true rfl) ?_
  refine kx_st 3 (pc' := 23) (L' := [some (.ref 6), some (.ref 49)]) (st' := [.int ((kv_uf g 7 (va_cpy (g 50) (g 7) 0 0 50)) 49 2), .ref 6]) (h' := kv_wd (kv_uf g 7 (va_cpy (g 50) (g 7) 0 0 50)) w) rfl ?_
  refine kx_pf (i := 17) (k := 2) (x := ((kv_uf g 7 (va_cpy (g 50) (g 7) 0 0 50)) 49 2)) rfl rfl (by decide) rfl (Nat.le_of_ble_eq_true rfl) rfl rfl rfl ?_
  refine kx_ret (v := none) rfl ?_
  exact ⟨rfl, rfl⟩
set_option maxRecDepth 100000 in
theorem lp_tape0 {E : kv_V} {d : Nat} {g : kv_S} {w : kv_W} {P : Option Value → kv_H → Prop} (hP : kx_V E d 170 66 [some (.ref 65), some (.int 0), some (.int (nI 50)), none, none] [] (kv_wd (kv_uf g 66 (kx_fd (g 66) 168 (fun j => g 66 (98 + j)) 50)) w) P) : ∀ (nz k : Nat), k + nz = 50 → kx_V E d 170 30 [some (.ref 65), some (.int 0), some (.int (nI k)), none, none] [] (kv_wd (kv_uf g 66 (kx_fd (g 66) 168 (fun j => g 66 (98 + j)) k)) w) P := by
  intro nz
  induction nz with
  | zero =>
    intro k hk
    have hkN : k = 50 := by omega
    refine kx_st 2 (pc' := 33) (L' := [some (.ref 65), some (.int 0), some (.int (nI k)), none, none]) (st' := [.int 50, .int (nI k)]) (h' := kv_wd (kv_uf g 66 (kx_fd (g 66) 168 (fun j => g 66 (98 + j)) k)) w) rfl ?_
    refine kx_bi (t := 66) rfl rfl (fun (h33 : 50 ≤ nI k) => ?_) (fun (h33 : ¬ (50 ≤ nI k)) => ?_)
    · subst hkN
      exact hP
    · exact absurd (nI_le (a := 50) (b := k) (by omega) (by omega)) h33
  | succ nz ih =>
    intro k hk
    have er : (kv_uf g 66 (kx_fd (g 66) 168 (fun j => g 66 (98 + j)) k)) 66 (98 + k) = g 66 (98 + k) := by rw [kv_uf_self]; unfold kx_fd; rw [if_neg (by omega)]
    refine kx_st 2 (pc' := 33) (L' := [some (.ref 65), some (.int 0), some (.int (nI k)), none, none]) (st' := [.int 50, .int (nI k)]) (h' := kv_wd (kv_uf g 66 (kx_fd (g 66) 168 (fun j => g 66 (98 + j)) k)) w) rfl ?_
    refine kx_bi (t := 66) rfl rfl (fun (h33 : 50 ≤ nI k) => ?_) (fun (h33 : ¬ (50 ≤ nI k)) => ?_)
    · exact absurd h33 (nI_ge (a := k) (b := 50) (by omega) (by omega))
    · refine kx_st 0 (pc' := 36) (L' := [some (.ref 65), some (.int 0), some (.int (nI k)), none, none]) (st' := []) (h' := kv_wd (kv_uf g 66 (kx_fd (g 66) 168 (fun j => g 66 (98 + j)) k)) w) rfl ?_
      refine kx_st 14 (pc' := 58) (L' := [some (.ref 65), some (.int 0), some (.int (nI k)), none, none]) (st' := [.int (98 + (nI k)), .ref 66, .int (168 + (nI k)), .ref 66]) (h' := kv_wd (kv_uf g 66 (kx_fd (g 66) 168 (fun j => g 66 (98 + j)) k)) w) rfl ?_
      refine kx_ia (k := (98 + k)) rfl rfl (by decide) (kx_nadd 98 k) (by omega) (by decide) ?_
      refine kx_is (k := (168 + k)) rfl rfl (by decide) (kx_nadd 168 k) (by omega) (by decide) ?_
      refine kx_st 2 (pc' := 30) (L' := [some (.ref 65), some (.int 0), some (.int ((nI k) + 1)), none, none]) (st' := []) (h' := kv_wd (kv_up (kv_uf g 66 (kx_fd (g 66) 168 (fun j => g 66 (98 + j)) k)) 66 (168 + k) ((kv_uf g 66 (kx_fd (g 66) 168 (fun j => g 66 (98 + j)) k)) 66 (98 + k))) w) rfl ?_
      rw [er, kv_up_uf, kv_uf_self, kv_uf_uf, kx_fd_s (g 66) 168 (fun j => g 66 (98 + j)) k, ← nI_succ]
      exact ih (k + 1) (by omega)
set_option maxRecDepth 100000 in
theorem ev_fault1 {E : kv_V} {d : Nat} {g : kv_S} {w : kv_W} {tx : Nat → Int32} {n a1 : Nat} {ok : Bool} {cd : List Int32} (hE : E 1002 = some (1, 6, kv_NA)) (n50 : n ≤ 50) (ha1 : a1 ≤ n) (hx : kx_PX tx n 1 47 [.int 0, .int (nI 0)] (8 * (5 - 0) + 9) 0 ok a1 cd) (htx : ∀ j, j < n → g 12 j = tx j) : ∃ g' : kv_S, kv_ev E (d + 51) 46 [.ref 48, .ref 12, .int (nI n), .int 1] (kv_wd g w) (some (.int (if ok = true ∧ a1 = n then -1 else nI a1))) (kv_wd g' w) ∧ (∀ b, b ≠ 48 → b ≠ 49 → b ≠ 50 → b ≠ 52 → g' b = g b) ∧ (ok = true → g' 49 2 = nI cd.length ∧ ∀ j, j < cd.length → g' 50 j = cd.getD j 0) := by
  obtain ⟨v0, hf, he, rfl, g', rfl, hh⟩ := kx_evP (E := E) (d := d + 50) (y := 46) (h := kv_wd g w) (as := [.ref 48, .ref 12, .int (nI n), .int 1]) (P := fun v0 h => v0 = (some (.int (if ok = true ∧ a1 = n then -1 else nI a1)) : Option Value) ∧ ∃ g' : kv_S, h = kv_wd g' w ∧ (∀ b, b ≠ 48 → b ≠ 49 → b ≠ 50 → b ≠ 52 → g' b = g b) ∧ (ok = true → g' 49 2 = nI cd.length ∧ ∀ j, j < cd.length → g' 50 j = cd.getD j 0)) (by decide) (Nat.le_of_ble_eq_true rfl) (by
    refine kx_st 0 (pc' := 0) (L' := [some (.ref 48), some (.ref 12), some (.int (nI n)), some (.int 1), none]) (st' := []) (h' := kv_wd g w) rfl ?_
    refine kx_st 9 (pc' := 15) (L' := [some (.ref 48), some (.ref 12), some (.int (nI n)), some (.int 1), none]) (st' := [.int (if 50 < if 50 < nI n then 50 else nI n then 50 else if 50 < nI n then 50 else nI n), .ref 48]) (h' := kv_wd g w) rfl ?_
    rw [show (if 50 < if 50 < nI n then 50 else nI n then 50 else if 50 < nI n then 50 else nI n) = nI n from by rw [if_neg (show ¬ (50 : Int32) < nI n from nI_nlt (a := 50) (b := n) n50 (by omega)), if_neg (show ¬ (50 : Int32) < nI n from nI_nlt (a := 50) (b := n) n50 (by omega))]]
    refine kx_pf (i := 24) (k := 2) (x := (nI n)) rfl rfl (by decide) rfl (Nat.le_of_ble_eq_true rfl) rfl rfl rfl ?_
    refine kx_st 2 (pc' := 21) (L' := [some (.ref 48), some (.ref 12), some (.int (nI n)), some (.int 1), some (.int 0)]) (st' := []) (h' := kv_wd (kv_up g 48 2 (nI n)) w) rfl ?_
    refine lp_fault n n50 1 (g := kv_up g 48 2 (nI n)) rfl (fun g21 r21 => ?_) n 0 _ (by omega) ⟨fun j hj => by omega, fun _ _ => rfl⟩
    refine kx_st 0 (pc' := 47) (L' := [some (.ref 48), some (.ref 12), some (.int (nI n)), some (.int 1), some (.int (nI n))]) (st' := []) (h' := kv_wd g21 w) rfl ?_
    refine kx_st 2 (pc' := 49) (L' := [some (.ref 48), some (.ref 12), some (.int (nI n)), some (.int 1), some (.int (nI n))]) (st' := [.int 0, .ref 48]) (h' := kv_wd g21 w) rfl ?_
    refine kx_pf (i := 28) (k := 3) (x := 0) rfl rfl (by decide) rfl (Nat.le_of_ble_eq_true rfl) rfl rfl rfl ?_
    refine kx_st 2 (pc' := 54) (L' := [some (.ref 48), some (.ref 12), some (.int (nI n)), some (.int 1), some (.int (nI n))]) (st' := [.int 1, .ref 48]) (h' := kv_wd (kv_up g21 48 3 0) w) rfl ?_
    refine kx_pf (i := 31) (k := 4) (x := 1) rfl rfl (by decide) rfl (Nat.le_of_ble_eq_true rfl) rfl rfl rfl ?_
    refine kx_st 2 (pc' := 61) (L' := [some (.ref 48), some (.ref 12), some (.int (nI n)), some (.int 1), some (.int (nI n))]) (st' := [.ref 49]) (h' := kv_wd (kv_up (kv_up g21 48 3 0) 48 4 1) w) rfl ?_
    refine kx_call (z := 37) (as := [.ref 49]) (rest := []) (v := none) (h1 := kv_wd (kv_up (kv_up (kv_up g21 48 3 0) 48 4 1) 49 2 0) w) rfl (kx_ev_le (d := 0 + 1) (by omega) (ev_clear (d := 0))) ?_
    refine kx_st 0 (pc' := 64) (L' := [some (.ref 48), some (.ref 12), some (.int (nI n)), some (.int 1), some (.int (nI n))]) (st' := []) (h' := kv_wd (kv_up (kv_up (kv_up g21 48 3 0) 48 4 1) 49 2 0) w) rfl ?_
    refine kx_st 3 (pc' := 67) (L' := [some (.ref 48), some (.ref 12), some (.int (nI n)), some (.int 1), some (.int (nI n))]) (st' := [.int 0, .int 0, .ref 48]) (h' := kv_wd (kv_up (kv_up (kv_up g21 48 3 0) 48 4 1) 49 2 0) w) rfl ?_
    have hs : kx_CS tx n 1 (kv_up (kv_up (kv_up g21 48 3 0) 48 4 1) 49 2 0) 0 0 := ⟨by show g21 48 2 = _; rw [r21.2 48 (by omega)]; rfl, rfl, rfl, fun j hj => (r21.1 j hj).trans (htx j hj), rfl⟩
    obtain ⟨g67, e67, r67⟩ := hx E d _ w 0 hE hs (by omega)
    have R2 : g67 48 2 = nI n := r67.2.1.1.trans hs.1
    have RB : ∀ b, b ≠ 48 → b ≠ 49 → b ≠ 50 → b ≠ 52 → g67 b = g b := fun b b1 b2 b3 b4 => (r67.2.2.1 b b1 b2 b3).trans (by rw [kv_up_ne b2, kv_up_ne b1, kv_up_ne b1, r21.2 b b4]; exact kv_up_ne b1)
    have RC : ok = true → g67 49 2 = nI cd.length ∧ ∀ j, j < cd.length → g67 50 j = cd.getD j 0 := fun z => ⟨by rw [(r67.2.2.2 z).1, Nat.zero_add], fun j hj => by have y := (r67.2.2.2 z).2.2 j hj; rw [Nat.zero_add] at y; exact y⟩
    refine kx_call (z := 47) (as := [.ref 48, .int 0, .int 0]) (rest := []) (v := some (.int (kx_ob ok))) (h1 := kv_wd g67 w) rfl (kx_ev_le (by omega) e67) ?_
    refine kx_st 0 (pc' := 70) (L' := [some (.ref 48), some (.ref 12), some (.int (nI n)), some (.int 1), some (.int (nI n))]) (st' := [.int (kx_ob ok)]) (h' := kv_wd g67 w) rfl ?_
    refine kx_bc (t := 88) rfl rfl (fun (h70 : kx_ob ok = 0) => ?_) (fun (h70 : ¬ (kx_ob ok = 0)) => ?_)
    · refine kx_st 2 (pc' := 92) (L' := [some (.ref 48), some (.ref 12), some (.int (nI n)), some (.int 1), some (.int (nI n))]) (st' := [.int (g67 48 3)]) (h' := kv_wd g67 w) rfl ?_
      refine kx_ret (v := some (.int (g67 48 3))) rfl ?_
      exact ⟨by rw [if_neg (show ¬ (ok = true ∧ a1 = n) from fun z => absurd h70 (by rw [z.1]; decide)), r67.1], g67, rfl, RB, RC⟩
    · refine kx_st 0 (pc' := 73) (L' := [some (.ref 48), some (.ref 12), some (.int (nI n)), some (.int 1), some (.int (nI n))]) (st' := []) (h' := kv_wd g67 w) rfl ?_
      refine kx_st 4 (pc' := 81) (L' := [some (.ref 48), some (.ref 12), some (.int (nI n)), some (.int 1), some (.int (nI n))]) (st' := [.int (g67 48 2), .int (g67 48 3)]) (h' := kv_wd g67 w) rfl ?_
      refine kx_bi (t := 88) rfl rfl (fun (h81 : ¬ g67 48 3 = g67 48 2) => ?_) (fun (h81 : ¬ (¬ g67 48 3 = g67 48 2)) => ?_)
      · refine kx_st 2 (pc' := 92) (L' := [some (.ref 48), some (.ref 12), some (.int (nI n)), some (.int 1), some (.int (nI n))]) (st' := [.int (g67 48 3)]) (h' := kv_wd g67 w) rfl ?_
        refine kx_ret (v := some (.int (g67 48 3))) rfl ?_
        exact ⟨by rw [if_neg (show ¬ (ok = true ∧ a1 = n) from fun z => h81 (by rw [r67.1, R2, z.2])), r67.1], g67, rfl, RB, RC⟩
      · refine kx_st 0 (pc' := 84) (L' := [some (.ref 48), some (.ref 12), some (.int (nI n)), some (.int 1), some (.int (nI n))]) (st' := []) (h' := kv_wd g67 w) rfl ?_
        refine kx_st 2 (pc' := 92) (L' := [some (.ref 48), some (.ref 12), some (.int (nI n)), some (.int 1), some (.int (nI n))]) (st' := [.int (-1)]) (h' := kv_wd g67 w) rfl ?_
        refine kx_ret (v := some (.int (-1))) rfl ?_
        exact ⟨by rw [if_pos (show ok = true ∧ a1 = n from ⟨kx_okt (fun z => h70 (by rw [z]; rfl)), kx_nI_inj (by omega) (by omega) (by rw [← r67.1, ← R2]; exact Classical.not_not.mp h81)⟩)], g67, rfl, RB, RC⟩)
  exact ⟨g', he, hh⟩
set_option maxRecDepth 100000 in
theorem ev_lcopyD1 {E : kv_V} {d : Nat} {g : kv_S} {w : kv_W}  : kv_ev E (d + 1) 36 [.ref 9, .ref 49] (kv_wd g w) none (kv_wd (kv_up (kv_uf g 10 (va_cpy (g 50) (g 10) 0 0 50)) 9 2 (g 49 2)) w) := by
  refine kx_ev (d := d + 0) (by decide) (Nat.le_of_ble_eq_true rfl) ?_
  refine kx_st 0 (pc' := 0) (L' := [some (.ref 9), some (.ref 49)]) (st' := []) (h' := kv_wd g w) rfl ?_
  refine kx_st 9 (pc' := 15) (L' := [some (.ref 9), some (.ref 49)]) (st' := [.int 50, .int 0, .ref 10, .int 0, .ref 50]) (h' := kv_wd g w) rfl ?_
  refine kx_cp (sp := 0) (dp := 0) (n := 50) rfl rfl rfl rfl rfl rfl (by decide) (by decide) rfl rfl rfl (by omega) (by omega) (by decide) (by decide) (Nat.le_of_ble_eq_true rfl) ?_
  refine kx_st 3 (pc' := 23) (L' := [some (.ref 9), some (.ref 49)]) (st' := [.int ((kv_uf g 10 (va_cpy (g 50) (g 10) 0 0 50)) 49 2), .ref 9]) (h' := kv_wd (kv_uf g 10 (va_cpy (g 50) (g 10) 0 0 50)) w) rfl ?_
  refine kx_pf (i := 17) (k := 2) (x := ((kv_uf g 10 (va_cpy (g 50) (g 10) 0 0 50)) 49 2)) rfl rfl (by decide) rfl (Nat.le_of_ble_eq_true rfl) rfl rfl rfl ?_
  refine kx_ret (v := none) rfl ?_
  exact ⟨rfl, rfl⟩
set_option maxRecDepth 100000 in
theorem lp_tape1 {E : kv_V} {d : Nat} {g : kv_S} {w : kv_W} {P : Option Value → kv_H → Prop} (hP : kx_V E d 170 66 [some (.ref 65), some (.int 1), some (.int (nI 50)), none, none] [] (kv_wd (kv_uf g 66 (kx_fd (g 66) 218 (fun j => g 66 (98 + j)) 50)) w) P) : ∀ (nz k : Nat), k + nz = 50 → kx_V E d 170 30 [some (.ref 65), some (.int 1), some (.int (nI k)), none, none] [] (kv_wd (kv_uf g 66 (kx_fd (g 66) 218 (fun j => g 66 (98 + j)) k)) w) P := by
  intro nz
  induction nz with
  | zero =>
    intro k hk
    have hkN : k = 50 := by omega
    refine kx_st 2 (pc' := 33) (L' := [some (.ref 65), some (.int 1), some (.int (nI k)), none, none]) (st' := [.int 50, .int (nI k)]) (h' := kv_wd (kv_uf g 66 (kx_fd (g 66) 218 (fun j => g 66 (98 + j)) k)) w) rfl ?_
    refine kx_bi (t := 66) rfl rfl (fun (h33 : 50 ≤ nI k) => ?_) (fun (h33 : ¬ (50 ≤ nI k)) => ?_)
    · subst hkN
      exact hP
    · exact absurd (nI_le (a := 50) (b := k) (by omega) (by omega)) h33
  | succ nz ih =>
    intro k hk
    have er : (kv_uf g 66 (kx_fd (g 66) 218 (fun j => g 66 (98 + j)) k)) 66 (98 + k) = g 66 (98 + k) := by rw [kv_uf_self]; unfold kx_fd; rw [if_neg (by omega)]
    refine kx_st 2 (pc' := 33) (L' := [some (.ref 65), some (.int 1), some (.int (nI k)), none, none]) (st' := [.int 50, .int (nI k)]) (h' := kv_wd (kv_uf g 66 (kx_fd (g 66) 218 (fun j => g 66 (98 + j)) k)) w) rfl ?_
    refine kx_bi (t := 66) rfl rfl (fun (h33 : 50 ≤ nI k) => ?_) (fun (h33 : ¬ (50 ≤ nI k)) => ?_)
    · exact absurd h33 (nI_ge (a := k) (b := 50) (by omega) (by omega))
    · refine kx_st 0 (pc' := 36) (L' := [some (.ref 65), some (.int 1), some (.int (nI k)), none, none]) (st' := []) (h' := kv_wd (kv_uf g 66 (kx_fd (g 66) 218 (fun j => g 66 (98 + j)) k)) w) rfl ?_
      refine kx_st 14 (pc' := 58) (L' := [some (.ref 65), some (.int 1), some (.int (nI k)), none, none]) (st' := [.int (98 + (nI k)), .ref 66, .int (218 + (nI k)), .ref 66]) (h' := kv_wd (kv_uf g 66 (kx_fd (g 66) 218 (fun j => g 66 (98 + j)) k)) w) rfl ?_
      refine kx_ia (k := (98 + k)) rfl rfl (by decide) (kx_nadd 98 k) (by omega) (by decide) ?_
      refine kx_is (k := (218 + k)) rfl rfl (by decide) (kx_nadd 218 k) (by omega) (by decide) ?_
      refine kx_st 2 (pc' := 30) (L' := [some (.ref 65), some (.int 1), some (.int ((nI k) + 1)), none, none]) (st' := []) (h' := kv_wd (kv_up (kv_uf g 66 (kx_fd (g 66) 218 (fun j => g 66 (98 + j)) k)) 66 (218 + k) ((kv_uf g 66 (kx_fd (g 66) 218 (fun j => g 66 (98 + j)) k)) 66 (98 + k))) w) rfl ?_
      rw [er, kv_up_uf, kv_uf_self, kv_uf_uf, kx_fd_s (g 66) 218 (fun j => g 66 (98 + j)) k, ← nI_succ]
      exact ih (k + 1) (by omega)
set_option maxRecDepth 100000 in
theorem pr_text {E : kv_V} (hE : E 1002 = some (1, 6, kv_NA)) (a : Int32) : kx_ok2 E (kx_Rl kx_L) 91 170 [.int a] := by
  intro g w i hR hi
  obtain ⟨F0, F1, s, t, m, K, hF0, hF1, hX, hM, hKB, hKe⟩ := kx_Rl_XMK hR
  obtain ⟨q0, hq0, hm0, hb0, hy0⟩ := kx_Rl_q hR
  have q := hR.1
  have b1 := hX.2.1.1
  have b2 := hM.2.1.1
  have a1 := hX.1.1
  have a2 := hX.1.2.1
  have a4 := hX.1.2.2.2
  have d1 := hX.2.1.2.2
  have d2 := hM.2.1.2
  obtain ⟨n, n50, t1, t2, t3⟩ := hR.2.2.1.2.2.2.1
  by_cases ha : 0 ≤ a ∧ a ≤ 1
  · rcases kx_b1 ha with rfl | rfl
    · obtain ⟨ok, a1, cd, hb, hx, hm⟩ := (kx_all_0 (tx := (fun j => g 66 (98 + j))) n50 (fun j hj => (t3 j hj).2) 5 0 rfl).2 0 (by omega)
      have ha1 := hb.1.2
      obtain ⟨gf, ef, rf, cf⟩ := ev_fault0 (E := E) (d := 848) (g := g) (w := w) hE n50 ha1 hx (fun j hj => (t3 j hj).1)
      have FM : ∀ j, j < 50 → kx_fd (gf 66) 168 (fun j => gf 66 (98 + j)) 50 (168 + j) = g 66 (98 + j) := fun j hj => by unfold kx_fd; rw [if_pos (by omega), show 168 + j - 168 = j by omega, rf 66 (by omega) (by omega) (by omega) (by omega)]
      have FN : ∀ j, (j < 168 ∨ 218 ≤ j) → kx_fd (gf 66) 168 (fun j => gf 66 (98 + j)) 50 j = g 66 j := fun j hj => by unfold kx_fd; rw [if_neg (by omega), rf 66 (by omega) (by omega) (by omega) (by omega)]
      obtain ⟨v, hv1, hv2⟩ := hm 1 1 1
      by_cases hgood : ok = true ∧ a1 = n
      · refine kx_two (by decide) (Nat.le_of_ble_eq_true rfl) (by decide) (Nat.le_of_ble_eq_true rfl) ?_
        refine kx_st 0 (pc' := 0) (L' := [some (.ref 0), some (.int 0), none, none]) (st' := []) (h' := kv_wd g w) rfl ?_
        refine kx_st 3 (pc' := 5) (L' := [some (.ref 0), some (.int 0), none, none]) (st' := [.int 0, .ref 1]) (h' := kv_wd g w) rfl ?_
        refine kx_call (z := 18) (as := [.ref 1, .int 0]) (rest := []) (v := some (.ref 6)) (h1 := kv_wd g w) rfl (ev_lawAt_0 (d := 898)) ?_
        refine kx_st 0 (pc' := 8) (L' := [some (.ref 0), some (.int 0), none, none]) (st' := [.ref 6]) (h' := kv_wd g w) rfl ?_
        refine kx_st 2 (pc' := 10) (L' := [some (.ref 0), some (.int 0), some (.ref 6), none]) (st' := [.ref 6]) (h' := kv_wd g w) rfl ?_
        refine kx_st 1 (pc' := 19) (L' := [some (.ref 0), some (.int 0), some (.ref 6), none]) (st' := []) (h' := kv_wd g w) rfl ?_
        refine kx_st 9 (pc' := 38) (L' := [some (.ref 0), some (.int 0), some (.ref 6), none]) (st' := [.int 0, .int (g 1 8), .ref 12, .ref 48]) (h' := kv_wd g w) rfl ?_
        refine kx_call (z := 46) (as := [.ref 48, .ref 12, .int (g 1 8), .int 0]) (rest := []) (v := some (.int (-1))) (h1 := kv_wd gf w) rfl (by rw [show g 1 8 = nI n from t1]; have z := ef; rw [if_pos hgood] at z; exact z) ?_
        refine kx_st 0 (pc' := 41) (L' := [some (.ref 0), some (.int 0), some (.ref 6), none]) (st' := [.int (-1)]) (h' := kv_wd gf w) rfl ?_
        refine kx_st 4 (pc' := 47) (L' := [some (.ref 0), some (.int 0), some (.ref 6), some (.int (-1))]) (st' := [.int 0, .ref 1]) (h' := kv_wd gf w) rfl ?_
        refine kx_pf (i := 152) (k := 8) (x := 0) rfl rfl (by decide) rfl (Nat.le_of_ble_eq_true rfl) rfl rfl rfl ?_
        refine kx_st 1 (pc' := 51) (L' := [some (.ref 0), some (.int 0), some (.ref 6), some (.int (-1))]) (st' := [.int (-1)]) (h' := kv_wd (kv_up gf 1 8 0) w) rfl ?_
        refine kx_st 1 (pc' := 59) (L' := [some (.ref 0), some (.int 0), some (.ref 6), some (.int (-1))]) (st' := []) (h' := kv_wd (kv_up gf 1 8 0) w) rfl ?_
        refine kx_st 4 (pc' := 67) (L' := [some (.ref 0), some (.int 0), some (.ref 6), some (.int (-1))]) (st' := [.ref 49, .ref 6]) (h' := kv_wd (kv_up gf 1 8 0) w) rfl ?_
        refine kx_call (z := 36) (as := [.ref 6, .ref 49]) (rest := []) (v := none) (h1 := kv_wd (kv_up (kv_uf (kv_up gf 1 8 0) 7 (va_cpy ((kv_up gf 1 8 0) 50) ((kv_up gf 1 8 0) 7) 0 0 50)) 6 2 ((kv_up gf 1 8 0) 49 2)) w) rfl (ev_lcopyD0 (d := 898)) ?_
        refine kx_st 0 (pc' := 70) (L' := [some (.ref 0), some (.int 0), some (.ref 6), some (.int (-1))]) (st' := []) (h' := kv_wd (kv_up (kv_uf (kv_up gf 1 8 0) 7 (va_cpy ((kv_up gf 1 8 0) 50) ((kv_up gf 1 8 0) 7) 0 0 50)) 6 2 ((kv_up gf 1 8 0) 49 2)) w) rfl ?_
        refine kx_st 1 (pc' := 71) (L' := [some (.ref 0), some (.int 0), some (.ref 6), some (.int (-1))]) (st' := [.int 1]) (h' := kv_wd (kv_up (kv_uf (kv_up gf 1 8 0) 7 (va_cpy ((kv_up gf 1 8 0) 50) ((kv_up gf 1 8 0) 7) 0 0 50)) 6 2 ((kv_up gf 1 8 0) 49 2)) w) rfl ?_
        refine kx_ret (v := some (.int 1)) rfl ?_
        refine ⟨_, _, _, rfl, rfl, ?_⟩
        refine kx_st 0 (pc' := 0) (L' := [some (.ref 65), some (.int 0), none, none, none]) (st' := []) (h' := kv_wd (kv_up (kv_uf (kv_up gf 1 8 0) 7 (va_cpy ((kv_up gf 1 8 0) 50) ((kv_up gf 1 8 0) 7) 0 0 50)) 6 2 ((kv_up gf 1 8 0) 49 2)) w) rfl ?_
        refine kx_st 3 (pc' := 3) (L' := [some (.ref 65), some (.int 0), none, none, none]) (st' := [.int 1, .int 0, .int 0]) (h' := kv_wd (kv_up (kv_uf (kv_up gf 1 8 0) 7 (va_cpy ((kv_up gf 1 8 0) 50) ((kv_up gf 1 8 0) 7) 0 0 50)) 6 2 ((kv_up gf 1 8 0) 49 2)) w) rfl ?_
        refine kx_call (z := 130) (as := [.int 0, .int 0, .int 1]) (rest := []) (v := some (.int (kx_b (0 ≤ (0 : Int32) ∧ (0 : Int32) ≤ 1)))) (h1 := kv_wd (kv_up (kv_uf (kv_up gf 1 8 0) 7 (va_cpy ((kv_up gf 1 8 0) 50) ((kv_up gf 1 8 0) 7) 0 0 50)) 6 2 ((kv_up gf 1 8 0) 49 2)) w) rfl (ev_in (d := 898) 0 0 1) ?_
        refine kx_st 0 (pc' := 6) (L' := [some (.ref 65), some (.int 0), none, none, none]) (st' := [.int (kx_b (0 ≤ (0 : Int32) ∧ (0 : Int32) ≤ 1))]) (h' := kv_wd (kv_up (kv_uf (kv_up gf 1 8 0) 7 (va_cpy ((kv_up gf 1 8 0) 50) ((kv_up gf 1 8 0) 7) 0 0 50)) 6 2 ((kv_up gf 1 8 0) 49 2)) w) rfl ?_
        refine kx_bn (t := 16) rfl rfl (fun (m6 : (0 ≤ (0 : Int32) ∧ (0 : Int32) ≤ 1)) => ?_) (fun (m6 : ¬ (0 ≤ (0 : Int32) ∧ (0 : Int32) ≤ 1)) => ?_)
        · refine kx_st 5 (pc' := 25) (L' := [some (.ref 65), some (.int 0), none, none, none]) (st' := [.ref 69, .ref 66, .ref 65]) (h' := kv_wd (kv_up (kv_uf (kv_up gf 1 8 0) 7 (va_cpy ((kv_up gf 1 8 0) 50) ((kv_up gf 1 8 0) 7) 0 0 50)) 6 2 ((kv_up gf 1 8 0) 49 2)) w) rfl ?_
          refine kx_call (z := 133) (as := [.ref 65, .ref 66, .ref 69]) (rest := []) (v := none) (h1 := kv_wd (kv_uf (kv_up (kv_uf (kv_up gf 1 8 0) 7 (va_cpy ((kv_up gf 1 8 0) 50) ((kv_up gf 1 8 0) 7) 0 0 50)) 6 2 ((kv_up gf 1 8 0) 49 2)) 69 (kx_mv ((kv_up (kv_uf (kv_up gf 1 8 0) 7 (va_cpy ((kv_up gf 1 8 0) 50) ((kv_up gf 1 8 0) 7) 0 0 50)) 6 2 ((kv_up gf 1 8 0) 49 2)) 66) ((kv_up (kv_uf (kv_up gf 1 8 0) 7 (va_cpy ((kv_up gf 1 8 0) 50) ((kv_up gf 1 8 0) 7) 0 0 50)) 6 2 ((kv_up gf 1 8 0) 49 2)) 69) 268)) w) rfl (ev_moveAll (d := 898) (a := 66) (b := 69) rfl rfl (by decide) (by decide) (by decide)) ?_
          refine kx_st 0 (pc' := 28) (L' := [some (.ref 65), some (.int 0), none, none, none]) (st' := []) (h' := kv_wd (kv_uf (kv_up (kv_uf (kv_up gf 1 8 0) 7 (va_cpy ((kv_up gf 1 8 0) 50) ((kv_up gf 1 8 0) 7) 0 0 50)) 6 2 ((kv_up gf 1 8 0) 49 2)) 69 (kx_mv ((kv_up (kv_uf (kv_up gf 1 8 0) 7 (va_cpy ((kv_up gf 1 8 0) 50) ((kv_up gf 1 8 0) 7) 0 0 50)) 6 2 ((kv_up gf 1 8 0) 49 2)) 66) ((kv_up (kv_uf (kv_up gf 1 8 0) 7 (va_cpy ((kv_up gf 1 8 0) 50) ((kv_up gf 1 8 0) 7) 0 0 50)) 6 2 ((kv_up gf 1 8 0) 49 2)) 69) 268)) w) rfl ?_
          refine kx_st 2 (pc' := 30) (L' := [some (.ref 65), some (.int 0), some (.int 0), none, none]) (st' := []) (h' := kv_wd (kv_uf (kv_up (kv_uf (kv_up gf 1 8 0) 7 (va_cpy ((kv_up gf 1 8 0) 50) ((kv_up gf 1 8 0) 7) 0 0 50)) 6 2 ((kv_up gf 1 8 0) 49 2)) 69 (kx_mv ((kv_up (kv_uf (kv_up gf 1 8 0) 7 (va_cpy ((kv_up gf 1 8 0) 50) ((kv_up gf 1 8 0) 7) 0 0 50)) 6 2 ((kv_up gf 1 8 0) 49 2)) 66) ((kv_up (kv_uf (kv_up gf 1 8 0) 7 (va_cpy ((kv_up gf 1 8 0) 50) ((kv_up gf 1 8 0) 7) 0 0 50)) 6 2 ((kv_up gf 1 8 0) 49 2)) 69) 268)) w) rfl ?_
          have h0 := lp_tape0 (E := E) (d := 899) (g := kv_uf (kv_up (kv_uf (kv_up gf 1 8 0) 7 (va_cpy ((kv_up gf 1 8 0) 50) ((kv_up gf 1 8 0) 7) 0 0 50)) 6 2 ((kv_up gf 1 8 0) 49 2)) 69 (kx_mv ((kv_up (kv_uf (kv_up gf 1 8 0) 7 (va_cpy ((kv_up gf 1 8 0) 50) ((kv_up gf 1 8 0) 7) 0 0 50)) 6 2 ((kv_up gf 1 8 0) 49 2)) 66) ((kv_up (kv_uf (kv_up gf 1 8 0) 7 (va_cpy ((kv_up gf 1 8 0) 50) ((kv_up gf 1 8 0) 7) 0 0 50)) 6 2 ((kv_up gf 1 8 0) 49 2)) 69) 268)) (w := w) (P := fun v' h' => v' = some (.int 1) ∧ ∃ g2 w2, h' = kv_wd g2 w2 ∧ kx_Rl kx_L g2 w2 (i + 1)) ?_ 50 0 (by omega)
          · rw [kx_fd_0, kv_uf_id] at h0
            exact h0
          · skip
            refine kx_st 0 (pc' := 66) (L' := [some (.ref 65), some (.int 0), some (.int (nI 50)), none, none]) (st' := []) (h' := kv_wd (kv_uf (kv_uf (kv_up (kv_uf (kv_up gf 1 8 0) 7 (va_cpy ((kv_up gf 1 8 0) 50) ((kv_up gf 1 8 0) 7) 0 0 50)) 6 2 ((kv_up gf 1 8 0) 49 2)) 69 (kx_mv ((kv_up (kv_uf (kv_up gf 1 8 0) 7 (va_cpy ((kv_up gf 1 8 0) 50) ((kv_up gf 1 8 0) 7) 0 0 50)) 6 2 ((kv_up gf 1 8 0) 49 2)) 66) ((kv_up (kv_uf (kv_up gf 1 8 0) 7 (va_cpy ((kv_up gf 1 8 0) 50) ((kv_up gf 1 8 0) 7) 0 0 50)) 6 2 ((kv_up gf 1 8 0) 49 2)) 69) 268)) 66 (kx_fd ((kv_uf (kv_up (kv_uf (kv_up gf 1 8 0) 7 (va_cpy ((kv_up gf 1 8 0) 50) ((kv_up gf 1 8 0) 7) 0 0 50)) 6 2 ((kv_up gf 1 8 0) 49 2)) 69 (kx_mv ((kv_up (kv_uf (kv_up gf 1 8 0) 7 (va_cpy ((kv_up gf 1 8 0) 50) ((kv_up gf 1 8 0) 7) 0 0 50)) 6 2 ((kv_up gf 1 8 0) 49 2)) 66) ((kv_up (kv_uf (kv_up gf 1 8 0) 7 (va_cpy ((kv_up gf 1 8 0) 50) ((kv_up gf 1 8 0) 7) 0 0 50)) 6 2 ((kv_up gf 1 8 0) 49 2)) 69) 268)) 66) 168 (fun j => (kv_uf (kv_up (kv_uf (kv_up gf 1 8 0) 7 (va_cpy ((kv_up gf 1 8 0) 50) ((kv_up gf 1 8 0) 7) 0 0 50)) 6 2 ((kv_up gf 1 8 0) 49 2)) 69 (kx_mv ((kv_up (kv_uf (kv_up gf 1 8 0) 7 (va_cpy ((kv_up gf 1 8 0) 50) ((kv_up gf 1 8 0) 7) 0 0 50)) 6 2 ((kv_up gf 1 8 0) 49 2)) 66) ((kv_up (kv_uf (kv_up gf 1 8 0) 7 (va_cpy ((kv_up gf 1 8 0) 50) ((kv_up gf 1 8 0) 7) 0 0 50)) 6 2 ((kv_up gf 1 8 0) 49 2)) 69) 268)) 66 (98 + j)) 50)) w) rfl ?_
            refine kx_st 8 (pc' := 79) (L' := [some (.ref 65), some (.int 0), some (.int (nI 50)), none, none]) (st' := [.int 4, .ref 66, .int 6, .ref 66]) (h' := kv_wd (kv_uf (kv_uf (kv_up (kv_uf (kv_up gf 1 8 0) 7 (va_cpy ((kv_up gf 1 8 0) 50) ((kv_up gf 1 8 0) 7) 0 0 50)) 6 2 ((kv_up gf 1 8 0) 49 2)) 69 (kx_mv ((kv_up (kv_uf (kv_up gf 1 8 0) 7 (va_cpy ((kv_up gf 1 8 0) 50) ((kv_up gf 1 8 0) 7) 0 0 50)) 6 2 ((kv_up gf 1 8 0) 49 2)) 66) ((kv_up (kv_uf (kv_up gf 1 8 0) 7 (va_cpy ((kv_up gf 1 8 0) 50) ((kv_up gf 1 8 0) 7) 0 0 50)) 6 2 ((kv_up gf 1 8 0) 49 2)) 69) 268)) 66 (kx_fd ((kv_uf (kv_up (kv_uf (kv_up gf 1 8 0) 7 (va_cpy ((kv_up gf 1 8 0) 50) ((kv_up gf 1 8 0) 7) 0 0 50)) 6 2 ((kv_up gf 1 8 0) 49 2)) 69 (kx_mv ((kv_up (kv_uf (kv_up gf 1 8 0) 7 (va_cpy ((kv_up gf 1 8 0) 50) ((kv_up gf 1 8 0) 7) 0 0 50)) 6 2 ((kv_up gf 1 8 0) 49 2)) 66) ((kv_up (kv_uf (kv_up gf 1 8 0) 7 (va_cpy ((kv_up gf 1 8 0) 50) ((kv_up gf 1 8 0) 7) 0 0 50)) 6 2 ((kv_up gf 1 8 0) 49 2)) 69) 268)) 66) 168 (fun j => (kv_uf (kv_up (kv_uf (kv_up gf 1 8 0) 7 (va_cpy ((kv_up gf 1 8 0) 50) ((kv_up gf 1 8 0) 7) 0 0 50)) 6 2 ((kv_up gf 1 8 0) 49 2)) 69 (kx_mv ((kv_up (kv_uf (kv_up gf 1 8 0) 7 (va_cpy ((kv_up gf 1 8 0) 50) ((kv_up gf 1 8 0) 7) 0 0 50)) 6 2 ((kv_up gf 1 8 0) 49 2)) 66) ((kv_up (kv_uf (kv_up gf 1 8 0) 7 (va_cpy ((kv_up gf 1 8 0) 50) ((kv_up gf 1 8 0) 7) 0 0 50)) 6 2 ((kv_up gf 1 8 0) 49 2)) 69) 268)) 66 (98 + j)) 50)) w) rfl ?_
            refine kx_ia (k := 4) rfl rfl (by decide) rfl (by decide) (by decide) ?_
            refine kx_is (k := 6) rfl rfl (by decide) rfl (by decide) (by decide) ?_
            refine kx_st 5 (pc' := 86) (L' := [some (.ref 65), some (.int 0), some (.int (nI 50)), none, none]) (st' := [.int 1, .int 1, .int 1, .int 0, .ref 65]) (h' := kv_wd (kv_up (kv_uf (kv_uf (kv_up (kv_uf (kv_up gf 1 8 0) 7 (va_cpy ((kv_up gf 1 8 0) 50) ((kv_up gf 1 8 0) 7) 0 0 50)) 6 2 ((kv_up gf 1 8 0) 49 2)) 69 (kx_mv ((kv_up (kv_uf (kv_up gf 1 8 0) 7 (va_cpy ((kv_up gf 1 8 0) 50) ((kv_up gf 1 8 0) 7) 0 0 50)) 6 2 ((kv_up gf 1 8 0) 49 2)) 66) ((kv_up (kv_uf (kv_up gf 1 8 0) 7 (va_cpy ((kv_up gf 1 8 0) 50) ((kv_up gf 1 8 0) 7) 0 0 50)) 6 2 ((kv_up gf 1 8 0) 49 2)) 69) 268)) 66 (kx_fd ((kv_uf (kv_up (kv_uf (kv_up gf 1 8 0) 7 (va_cpy ((kv_up gf 1 8 0) 50) ((kv_up gf 1 8 0) 7) 0 0 50)) 6 2 ((kv_up gf 1 8 0) 49 2)) 69 (kx_mv ((kv_up (kv_uf (kv_up gf 1 8 0) 7 (va_cpy ((kv_up gf 1 8 0) 50) ((kv_up gf 1 8 0) 7) 0 0 50)) 6 2 ((kv_up gf 1 8 0) 49 2)) 66) ((kv_up (kv_uf (kv_up gf 1 8 0) 7 (va_cpy ((kv_up gf 1 8 0) 50) ((kv_up gf 1 8 0) 7) 0 0 50)) 6 2 ((kv_up gf 1 8 0) 49 2)) 69) 268)) 66) 168 (fun j => (kv_uf (kv_up (kv_uf (kv_up gf 1 8 0) 7 (va_cpy ((kv_up gf 1 8 0) 50) ((kv_up gf 1 8 0) 7) 0 0 50)) 6 2 ((kv_up gf 1 8 0) 49 2)) 69 (kx_mv ((kv_up (kv_uf (kv_up gf 1 8 0) 7 (va_cpy ((kv_up gf 1 8 0) 50) ((kv_up gf 1 8 0) 7) 0 0 50)) 6 2 ((kv_up gf 1 8 0) 49 2)) 66) ((kv_up (kv_uf (kv_up gf 1 8 0) 7 (va_cpy ((kv_up gf 1 8 0) 50) ((kv_up gf 1 8 0) 7) 0 0 50)) 6 2 ((kv_up gf 1 8 0) 49 2)) 69) 268)) 66 (98 + j)) 50)) 66 6 ((kv_uf (kv_uf (kv_up (kv_uf (kv_up gf 1 8 0) 7 (va_cpy ((kv_up gf 1 8 0) 50) ((kv_up gf 1 8 0) 7) 0 0 50)) 6 2 ((kv_up gf 1 8 0) 49 2)) 69 (kx_mv ((kv_up (kv_uf (kv_up gf 1 8 0) 7 (va_cpy ((kv_up gf 1 8 0) 50) ((kv_up gf 1 8 0) 7) 0 0 50)) 6 2 ((kv_up gf 1 8 0) 49 2)) 66) ((kv_up (kv_uf (kv_up gf 1 8 0) 7 (va_cpy ((kv_up gf 1 8 0) 50) ((kv_up gf 1 8 0) 7) 0 0 50)) 6 2 ((kv_up gf 1 8 0) 49 2)) 69) 268)) 66 (kx_fd ((kv_uf (kv_up (kv_uf (kv_up gf 1 8 0) 7 (va_cpy ((kv_up gf 1 8 0) 50) ((kv_up gf 1 8 0) 7) 0 0 50)) 6 2 ((kv_up gf 1 8 0) 49 2)) 69 (kx_mv ((kv_up (kv_uf (kv_up gf 1 8 0) 7 (va_cpy ((kv_up gf 1 8 0) 50) ((kv_up gf 1 8 0) 7) 0 0 50)) 6 2 ((kv_up gf 1 8 0) 49 2)) 66) ((kv_up (kv_uf (kv_up gf 1 8 0) 7 (va_cpy ((kv_up gf 1 8 0) 50) ((kv_up gf 1 8 0) 7) 0 0 50)) 6 2 ((kv_up gf 1 8 0) 49 2)) 69) 268)) 66) 168 (fun j => (kv_uf (kv_up (kv_uf (kv_up gf 1 8 0) 7 (va_cpy ((kv_up gf 1 8 0) 50) ((kv_up gf 1 8 0) 7) 0 0 50)) 6 2 ((kv_up gf 1 8 0) 49 2)) 69 (kx_mv ((kv_up (kv_uf (kv_up gf 1 8 0) 7 (va_cpy ((kv_up gf 1 8 0) 50) ((kv_up gf 1 8 0) 7) 0 0 50)) 6 2 ((kv_up gf 1 8 0) 49 2)) 66) ((kv_up (kv_uf (kv_up gf 1 8 0) 7 (va_cpy ((kv_up gf 1 8 0) 50) ((kv_up gf 1 8 0) 7) 0 0 50)) 6 2 ((kv_up gf 1 8 0) 49 2)) 69) 268)) 66 (98 + j)) 50)) 66 4)) w) rfl ?_
            have H4 : ∀ j, (kv_up (kv_uf (kv_uf (kv_up (kv_uf (kv_up gf 1 8 0) 7 (va_cpy ((kv_up gf 1 8 0) 50) ((kv_up gf 1 8 0) 7) 0 0 50)) 6 2 ((kv_up gf 1 8 0) 49 2)) 69 (kx_mv ((kv_up (kv_uf (kv_up gf 1 8 0) 7 (va_cpy ((kv_up gf 1 8 0) 50) ((kv_up gf 1 8 0) 7) 0 0 50)) 6 2 ((kv_up gf 1 8 0) 49 2)) 66) ((kv_up (kv_uf (kv_up gf 1 8 0) 7 (va_cpy ((kv_up gf 1 8 0) 50) ((kv_up gf 1 8 0) 7) 0 0 50)) 6 2 ((kv_up gf 1 8 0) 49 2)) 69) 268)) 66 (kx_fd ((kv_uf (kv_up (kv_uf (kv_up gf 1 8 0) 7 (va_cpy ((kv_up gf 1 8 0) 50) ((kv_up gf 1 8 0) 7) 0 0 50)) 6 2 ((kv_up gf 1 8 0) 49 2)) 69 (kx_mv ((kv_up (kv_uf (kv_up gf 1 8 0) 7 (va_cpy ((kv_up gf 1 8 0) 50) ((kv_up gf 1 8 0) 7) 0 0 50)) 6 2 ((kv_up gf 1 8 0) 49 2)) 66) ((kv_up (kv_uf (kv_up gf 1 8 0) 7 (va_cpy ((kv_up gf 1 8 0) 50) ((kv_up gf 1 8 0) 7) 0 0 50)) 6 2 ((kv_up gf 1 8 0) 49 2)) 69) 268)) 66) 168 (fun j => (kv_uf (kv_up (kv_uf (kv_up gf 1 8 0) 7 (va_cpy ((kv_up gf 1 8 0) 50) ((kv_up gf 1 8 0) 7) 0 0 50)) 6 2 ((kv_up gf 1 8 0) 49 2)) 69 (kx_mv ((kv_up (kv_uf (kv_up gf 1 8 0) 7 (va_cpy ((kv_up gf 1 8 0) 50) ((kv_up gf 1 8 0) 7) 0 0 50)) 6 2 ((kv_up gf 1 8 0) 49 2)) 66) ((kv_up (kv_uf (kv_up gf 1 8 0) 7 (va_cpy ((kv_up gf 1 8 0) 50) ((kv_up gf 1 8 0) 7) 0 0 50)) 6 2 ((kv_up gf 1 8 0) 49 2)) 69) 268)) 66 (98 + j)) 50)) 66 6 ((kv_uf (kv_uf (kv_up (kv_uf (kv_up gf 1 8 0) 7 (va_cpy ((kv_up gf 1 8 0) 50) ((kv_up gf 1 8 0) 7) 0 0 50)) 6 2 ((kv_up gf 1 8 0) 49 2)) 69 (kx_mv ((kv_up (kv_uf (kv_up gf 1 8 0) 7 (va_cpy ((kv_up gf 1 8 0) 50) ((kv_up gf 1 8 0) 7) 0 0 50)) 6 2 ((kv_up gf 1 8 0) 49 2)) 66) ((kv_up (kv_uf (kv_up gf 1 8 0) 7 (va_cpy ((kv_up gf 1 8 0) 50) ((kv_up gf 1 8 0) 7) 0 0 50)) 6 2 ((kv_up gf 1 8 0) 49 2)) 69) 268)) 66 (kx_fd ((kv_uf (kv_up (kv_uf (kv_up gf 1 8 0) 7 (va_cpy ((kv_up gf 1 8 0) 50) ((kv_up gf 1 8 0) 7) 0 0 50)) 6 2 ((kv_up gf 1 8 0) 49 2)) 69 (kx_mv ((kv_up (kv_uf (kv_up gf 1 8 0) 7 (va_cpy ((kv_up gf 1 8 0) 50) ((kv_up gf 1 8 0) 7) 0 0 50)) 6 2 ((kv_up gf 1 8 0) 49 2)) 66) ((kv_up (kv_uf (kv_up gf 1 8 0) 7 (va_cpy ((kv_up gf 1 8 0) 50) ((kv_up gf 1 8 0) 7) 0 0 50)) 6 2 ((kv_up gf 1 8 0) 49 2)) 69) 268)) 66) 168 (fun j => (kv_uf (kv_up (kv_uf (kv_up gf 1 8 0) 7 (va_cpy ((kv_up gf 1 8 0) 50) ((kv_up gf 1 8 0) 7) 0 0 50)) 6 2 ((kv_up gf 1 8 0) 49 2)) 69 (kx_mv ((kv_up (kv_uf (kv_up gf 1 8 0) 7 (va_cpy ((kv_up gf 1 8 0) 50) ((kv_up gf 1 8 0) 7) 0 0 50)) 6 2 ((kv_up gf 1 8 0) 49 2)) 66) ((kv_up (kv_uf (kv_up gf 1 8 0) 7 (va_cpy ((kv_up gf 1 8 0) 50) ((kv_up gf 1 8 0) 7) 0 0 50)) 6 2 ((kv_up gf 1 8 0) 49 2)) 69) 268)) 66 (98 + j)) 50)) 66 4)) 66 j = if j = 6 then nI n else kx_fd (gf 66) 168 (fun j => gf 66 (98 + j)) 50 j := fun j => by
              show upd (kx_fd (gf 66) 168 (fun j => gf 66 (98 + j)) 50) 6 (kx_fd (gf 66) 168 (fun j => gf 66 (98 + j)) 50 4) j = _
              rw [FN 4 (by omega), show g 66 4 = nI n from t2]
              rfl
            obtain ⟨g86, e86, w1, w2, w3, w4⟩ := ev_walks0 (E := E) (d := 858) (g := kv_up (kv_uf (kv_uf (kv_up (kv_uf (kv_up gf 1 8 0) 7 (va_cpy ((kv_up gf 1 8 0) 50) ((kv_up gf 1 8 0) 7) 0 0 50)) 6 2 ((kv_up gf 1 8 0) 49 2)) 69 (kx_mv ((kv_up (kv_uf (kv_up gf 1 8 0) 7 (va_cpy ((kv_up gf 1 8 0) 50) ((kv_up gf 1 8 0) 7) 0 0 50)) 6 2 ((kv_up gf 1 8 0) 49 2)) 66) ((kv_up (kv_uf (kv_up gf 1 8 0) 7 (va_cpy ((kv_up gf 1 8 0) 50) ((kv_up gf 1 8 0) 7) 0 0 50)) 6 2 ((kv_up gf 1 8 0) 49 2)) 69) 268)) 66 (kx_fd ((kv_uf (kv_up (kv_uf (kv_up gf 1 8 0) 7 (va_cpy ((kv_up gf 1 8 0) 50) ((kv_up gf 1 8 0) 7) 0 0 50)) 6 2 ((kv_up gf 1 8 0) 49 2)) 69 (kx_mv ((kv_up (kv_uf (kv_up gf 1 8 0) 7 (va_cpy ((kv_up gf 1 8 0) 50) ((kv_up gf 1 8 0) 7) 0 0 50)) 6 2 ((kv_up gf 1 8 0) 49 2)) 66) ((kv_up (kv_uf (kv_up gf 1 8 0) 7 (va_cpy ((kv_up gf 1 8 0) 50) ((kv_up gf 1 8 0) 7) 0 0 50)) 6 2 ((kv_up gf 1 8 0) 49 2)) 69) 268)) 66) 168 (fun j => (kv_uf (kv_up (kv_uf (kv_up gf 1 8 0) 7 (va_cpy ((kv_up gf 1 8 0) 50) ((kv_up gf 1 8 0) 7) 0 0 50)) 6 2 ((kv_up gf 1 8 0) 49 2)) 69 (kx_mv ((kv_up (kv_uf (kv_up gf 1 8 0) 7 (va_cpy ((kv_up gf 1 8 0) 50) ((kv_up gf 1 8 0) 7) 0 0 50)) 6 2 ((kv_up gf 1 8 0) 49 2)) 66) ((kv_up (kv_uf (kv_up gf 1 8 0) 7 (va_cpy ((kv_up gf 1 8 0) 50) ((kv_up gf 1 8 0) 7) 0 0 50)) 6 2 ((kv_up gf 1 8 0) 49 2)) 69) 268)) 66 (98 + j)) 50)) 66 6 ((kv_uf (kv_uf (kv_up (kv_uf (kv_up gf 1 8 0) 7 (va_cpy ((kv_up gf 1 8 0) 50) ((kv_up gf 1 8 0) 7) 0 0 50)) 6 2 ((kv_up gf 1 8 0) 49 2)) 69 (kx_mv ((kv_up (kv_uf (kv_up gf 1 8 0) 7 (va_cpy ((kv_up gf 1 8 0) 50) ((kv_up gf 1 8 0) 7) 0 0 50)) 6 2 ((kv_up gf 1 8 0) 49 2)) 66) ((kv_up (kv_uf (kv_up gf 1 8 0) 7 (va_cpy ((kv_up gf 1 8 0) 50) ((kv_up gf 1 8 0) 7) 0 0 50)) 6 2 ((kv_up gf 1 8 0) 49 2)) 69) 268)) 66 (kx_fd ((kv_uf (kv_up (kv_uf (kv_up gf 1 8 0) 7 (va_cpy ((kv_up gf 1 8 0) 50) ((kv_up gf 1 8 0) 7) 0 0 50)) 6 2 ((kv_up gf 1 8 0) 49 2)) 69 (kx_mv ((kv_up (kv_uf (kv_up gf 1 8 0) 7 (va_cpy ((kv_up gf 1 8 0) 50) ((kv_up gf 1 8 0) 7) 0 0 50)) 6 2 ((kv_up gf 1 8 0) 49 2)) 66) ((kv_up (kv_uf (kv_up gf 1 8 0) 7 (va_cpy ((kv_up gf 1 8 0) 50) ((kv_up gf 1 8 0) 7) 0 0 50)) 6 2 ((kv_up gf 1 8 0) 49 2)) 69) 268)) 66) 168 (fun j => (kv_uf (kv_up (kv_uf (kv_up gf 1 8 0) 7 (va_cpy ((kv_up gf 1 8 0) 50) ((kv_up gf 1 8 0) 7) 0 0 50)) 6 2 ((kv_up gf 1 8 0) 49 2)) 69 (kx_mv ((kv_up (kv_uf (kv_up gf 1 8 0) 7 (va_cpy ((kv_up gf 1 8 0) 50) ((kv_up gf 1 8 0) 7) 0 0 50)) 6 2 ((kv_up gf 1 8 0) 49 2)) 66) ((kv_up (kv_uf (kv_up gf 1 8 0) 7 (va_cpy ((kv_up gf 1 8 0) 50) ((kv_up gf 1 8 0) 7) 0 0 50)) 6 2 ((kv_up gf 1 8 0) 49 2)) 69) 268)) 66 (98 + j)) 50)) 66 4)) (w := w) (tx := (fun j => g 66 (98 + j))) (A := 1) (B := 1) (C := 1) n50 ha1 hv2 (by rw [H4, if_pos rfl]) (fun j hj => by rw [show 168 + 50 * 0 + j = 168 + j by omega, H4, if_neg (by omega)]; exact FM j (by omega))
            have w66 : ∀ j, g86 66 j = if j = 6 then nI n else kx_fd (gf 66) 168 (fun j => gf 66 (98 + j)) 50 j := fun j => by rw [w1 66 (by omega)]; exact H4 j
            refine kx_call (z := 166) (as := [.ref 65, .int 0, .int 1, .int 1, .int 1]) (rest := []) (v := some (.int v)) (h1 := kv_wd g86 w) rfl (kx_ev_le (by omega) e86) ?_
            refine kx_st 0 (pc' := 89) (L' := [some (.ref 65), some (.int 0), some (.int (nI 50)), none, none]) (st' := [.int v]) (h' := kv_wd g86 w) rfl ?_
            refine kx_st 3 (pc' := 94) (L' := [some (.ref 65), some (.int 0), some (.int v), none, none]) (st' := [.int (g86 65 14)]) (h' := kv_wd g86 w) rfl ?_
            refine kx_bc (t := 106) rfl rfl (fun (m94 : g86 65 14 = 0) => ?_) (fun (m94 : ¬ (g86 65 14 = 0)) => ?_)
            · exact absurd m94 (by rw [w3, if_pos hgood]; decide)
            · refine kx_st 0 (pc' := 97) (L' := [some (.ref 65), some (.int 0), some (.int v), none, none]) (st' := []) (h' := kv_wd g86 w) rfl ?_
              refine kx_st 2 (pc' := 99) (L' := [some (.ref 65), some (.int 0), some (.int v), none, none]) (st' := [.int v, .int v]) (h' := kv_wd g86 w) rfl ?_
              refine kx_bi (t := 106) rfl rfl (fun (m99 : ¬ v = v) => ?_) (fun (m99 : ¬ (¬ v = v)) => ?_)
              · exact absurd rfl m99
              · refine kx_st 0 (pc' := 102) (L' := [some (.ref 65), some (.int 0), some (.int v), none, none]) (st' := []) (h' := kv_wd g86 w) rfl ?_
                refine kx_st 7 (pc' := 115) (L' := [some (.ref 65), some (.int 0), some (.int v), some (.int 1), some (.int (g86 65 8))]) (st' := [.int 1]) (h' := kv_wd g86 w) rfl ?_
                refine kx_st 1 (pc' := 130) (L' := [some (.ref 65), some (.int 0), some (.int v), some (.int 1), some (.int (g86 65 8))]) (st' := []) (h' := kv_wd g86 w) rfl ?_
                refine kx_st 4 (pc' := 136) (L' := [some (.ref 65), some (.int 0), some (.int v), some (.int 1), some (.int (g86 65 8))]) (st' := [.int 0, .int 4, .ref 66]) (h' := kv_wd g86 w) rfl ?_
                refine kx_is (k := 4) rfl rfl (by decide) rfl (by decide) (by decide) ?_
                refine kx_st 1 (pc' := 138) (L' := [some (.ref 65), some (.int 0), some (.int v), some (.int 1), some (.int (g86 65 8))]) (st' := [.int 1]) (h' := kv_wd (kv_up g86 66 4 0) w) rfl ?_
                refine kx_st 1 (pc' := 141) (L' := [some (.ref 65), some (.int 0), some (.int v), some (.int 1), some (.int (g86 65 8))]) (st' := []) (h' := kv_wd (kv_up g86 66 4 0) w) rfl ?_
                refine kx_st 2 (pc' := 150) (L' := [some (.ref 65), some (.int 0), some (.int v), some (.int 1), some (.int (g86 65 8))]) (st' := [.int 1]) (h' := kv_wd (kv_up g86 66 4 0) w) rfl ?_
                refine kx_ret (v := some (.int 1)) rfl ?_
                obtain ⟨G, eG⟩ : ∃ G : kv_S, G = kv_up g86 66 4 0 := ⟨_, rfl⟩
                refine ⟨rfl, _, w, rfl, ?_⟩
                rw [← eG]
                obtain ⟨hok, rfl⟩ := hgood
                subst hok
                have Gb : ∀ b, b ≠ 65 → b ≠ 66 → G b = g86 b := fun b _ b66 => by rw [eG, kv_up_ne b66]
                have G66 : ∀ j, j ≠ 4 → G 66 j = g86 66 j := fun j hj => by rw [eG, kv_up_at, kx_upn hj]
                have GC : ∀ b, b ≠ 65 → b ≠ 66 → b ≠ 69 → G b = (kv_up (kv_uf (kv_up gf 1 8 0) 7 (va_cpy ((kv_up gf 1 8 0) 50) ((kv_up gf 1 8 0) 7) 0 0 50)) 6 2 ((kv_up gf 1 8 0) 49 2)) b := fun b b1 b2 b3 => by rw [Gb b b1 b2, w1 b b1, kv_up_ne b2, kv_uf_ne b2, kv_uf_ne b3]
                have GF : ∀ b, b ≠ 1 → b ≠ 6 → b ≠ 7 → b ≠ 48 → b ≠ 49 → b ≠ 50 → b ≠ 52 → b ≠ 65 → b ≠ 66 → b ≠ 69 → G b = g b := fun b b1 b2 b3 b4 b5 b6 b7 b8 b9 b10 => by rw [GC b b8 b9 b10, kv_up_ne b2, kv_uf_ne b3, kv_up_ne b1, rf b b4 b5 b6 b7]
                have cl := cf rfl
                refine kx_Rl_text hR (fun b b1 b6 b7 b8 b9 b10 b11 b44 b65 b66 b68 b69 => GF b b1 (by omega) (by omega) (by omega) (by omega) (by omega) (by omega) b65 b66 b69) (fun k hk => ?_) ?_ (fun k hk => ?_) ?_ (fun j j4 j6 j7 hj => ?_) ?_ ?_ ?_ ?_
                · rw [GC 1 (by omega) (by omega) (by omega)]
                  show upd (gf 1) 8 0 k = _
                  rw [kx_upn hk, rf 1 (by omega) (by omega) (by omega) (by omega)]
                · rw [GC 1 (by omega) (by omega) (by omega)]; rfl
                · rw [eG, kv_up_ne (by omega), w4 k hk]
                  show gf 65 k = _
                  rw [rf 65 (by omega) (by omega) (by omega) (by omega)]
                · rw [eG]; rfl
                · rw [G66 j j4, w66 j, if_neg (by omega), FN j (by omega)]
                · rw [GC 6 (by omega) (by omega) (by omega)]; show gf 6 0 = _; rw [rf 6 (by omega) (by omega) (by omega) (by omega)]
                · rw [GF 9 (by omega) (by omega) (by omega) (by omega) (by omega) (by omega) (by omega) (by omega) (by omega) (by omega)]
                · refine kx_L_t0 (n := a1) (cd := cd) (tx := fun j => G 66 (168 + j)) n50 hb ?_ (fun j hj => ?_) ?_ ?_
                  · rw [GC 6 (by omega) (by omega) (by omega)]; show gf 49 2 = _; exact cl.1
                  · rw [GC 7 (by omega) (by omega) (by omega)]
                    show va_cpy (gf 50) (gf 7) 0 0 50 j = _
                    rw [kx_va (by have := (hb.2 rfl).2.1; omega)]; exact cl.2 j hj
                  · rw [G66 6 (by omega), w66 6, if_pos rfl]
                  · intro A B C
                    obtain ⟨v9, z1, z2⟩ := hm A B C
                    exact ⟨v9, z1, fun E d g9 w9 hs => z2 E d g9 w9 ⟨hs.1, hs.2.1, hs.2.2.1, fun j hj => (hs.2.2.2 j hj).trans (by show G 66 (168 + j) = g 66 (98 + j); rw [G66 _ (by omega), w66, if_neg (by omega)]; exact FM j (by omega))⟩⟩
                · refine kx_L_cg ?_ (fun j _ => ?_) ?_ (fun j hj => ?_) hR.2.2.1.2.2.2.2.2.2.2
                  · rw [GF 9 (by omega) (by omega) (by omega) (by omega) (by omega) (by omega) (by omega) (by omega) (by omega) (by omega)]
                  · rw [GF 10 (by omega) (by omega) (by omega) (by omega) (by omega) (by omega) (by omega) (by omega) (by omega) (by omega)]
                  · rw [G66 7 (by omega), w66 7, if_neg (by omega), FN 7 (by omega)]
                  · show G 66 (218 + j) = g 66 (218 + j)
                    rw [G66 _ (by omega), w66, if_neg (by omega), FN _ (by omega)]
        · exact absurd ha m6
      · refine kx_two (by decide) (Nat.le_of_ble_eq_true rfl) (by decide) (Nat.le_of_ble_eq_true rfl) ?_
        refine kx_st 0 (pc' := 0) (L' := [some (.ref 0), some (.int 0), none, none]) (st' := []) (h' := kv_wd g w) rfl ?_
        refine kx_st 3 (pc' := 5) (L' := [some (.ref 0), some (.int 0), none, none]) (st' := [.int 0, .ref 1]) (h' := kv_wd g w) rfl ?_
        refine kx_call (z := 18) (as := [.ref 1, .int 0]) (rest := []) (v := some (.ref 6)) (h1 := kv_wd g w) rfl (ev_lawAt_0 (d := 898)) ?_
        refine kx_st 0 (pc' := 8) (L' := [some (.ref 0), some (.int 0), none, none]) (st' := [.ref 6]) (h' := kv_wd g w) rfl ?_
        refine kx_st 2 (pc' := 10) (L' := [some (.ref 0), some (.int 0), some (.ref 6), none]) (st' := [.ref 6]) (h' := kv_wd g w) rfl ?_
        refine kx_st 1 (pc' := 19) (L' := [some (.ref 0), some (.int 0), some (.ref 6), none]) (st' := []) (h' := kv_wd g w) rfl ?_
        refine kx_st 9 (pc' := 38) (L' := [some (.ref 0), some (.int 0), some (.ref 6), none]) (st' := [.int 0, .int (g 1 8), .ref 12, .ref 48]) (h' := kv_wd g w) rfl ?_
        refine kx_call (z := 46) (as := [.ref 48, .ref 12, .int (g 1 8), .int 0]) (rest := []) (v := some (.int (nI a1))) (h1 := kv_wd gf w) rfl (by rw [show g 1 8 = nI n from t1]; have z := ef; rw [if_neg hgood] at z; exact z) ?_
        refine kx_st 0 (pc' := 41) (L' := [some (.ref 0), some (.int 0), some (.ref 6), none]) (st' := [.int (nI a1)]) (h' := kv_wd gf w) rfl ?_
        refine kx_st 4 (pc' := 47) (L' := [some (.ref 0), some (.int 0), some (.ref 6), some (.int (nI a1))]) (st' := [.int 0, .ref 1]) (h' := kv_wd gf w) rfl ?_
        refine kx_pf (i := 152) (k := 8) (x := 0) rfl rfl (by decide) rfl (Nat.le_of_ble_eq_true rfl) rfl rfl rfl ?_
        refine kx_st 1 (pc' := 51) (L' := [some (.ref 0), some (.int 0), some (.ref 6), some (.int (nI a1))]) (st' := [.int (nI a1)]) (h' := kv_wd (kv_up gf 1 8 0) w) rfl ?_
        refine kx_bc (t := 59) rfl rfl (fun (h51 : nI a1 < 0) => ?_) (fun (h51 : ¬ (nI a1 < 0)) => ?_)
        · exact absurd h51 (nI_pos (by omega))
        · refine kx_st 0 (pc' := 54) (L' := [some (.ref 0), some (.int 0), some (.ref 6), some (.int (nI a1))]) (st' := []) (h' := kv_wd (kv_up gf 1 8 0) w) rfl ?_
          refine kx_st 3 (pc' := 58) (L' := [some (.ref 0), some (.int 0), some (.ref 6), some (.int (nI a1))]) (st' := [.int ((-10) - (nI a1))]) (h' := kv_wd (kv_up gf 1 8 0) w) rfl ?_
          refine kx_ret (v := some (.int ((-10) - (nI a1)))) rfl ?_
          refine ⟨_, _, _, rfl, rfl, ?_⟩
          refine kx_st 0 (pc' := 0) (L' := [some (.ref 65), some (.int 0), none, none, none]) (st' := []) (h' := kv_wd (kv_up gf 1 8 0) w) rfl ?_
          refine kx_st 3 (pc' := 3) (L' := [some (.ref 65), some (.int 0), none, none, none]) (st' := [.int 1, .int 0, .int 0]) (h' := kv_wd (kv_up gf 1 8 0) w) rfl ?_
          refine kx_call (z := 130) (as := [.int 0, .int 0, .int 1]) (rest := []) (v := some (.int (kx_b (0 ≤ (0 : Int32) ∧ (0 : Int32) ≤ 1)))) (h1 := kv_wd (kv_up gf 1 8 0) w) rfl (ev_in (d := 898) 0 0 1) ?_
          refine kx_st 0 (pc' := 6) (L' := [some (.ref 65), some (.int 0), none, none, none]) (st' := [.int (kx_b (0 ≤ (0 : Int32) ∧ (0 : Int32) ≤ 1))]) (h' := kv_wd (kv_up gf 1 8 0) w) rfl ?_
          refine kx_bn (t := 16) rfl rfl (fun (m6 : (0 ≤ (0 : Int32) ∧ (0 : Int32) ≤ 1)) => ?_) (fun (m6 : ¬ (0 ≤ (0 : Int32) ∧ (0 : Int32) ≤ 1)) => ?_)
          · refine kx_st 5 (pc' := 25) (L' := [some (.ref 65), some (.int 0), none, none, none]) (st' := [.ref 69, .ref 66, .ref 65]) (h' := kv_wd (kv_up gf 1 8 0) w) rfl ?_
            refine kx_call (z := 133) (as := [.ref 65, .ref 66, .ref 69]) (rest := []) (v := none) (h1 := kv_wd (kv_uf (kv_up gf 1 8 0) 69 (kx_mv ((kv_up gf 1 8 0) 66) ((kv_up gf 1 8 0) 69) 268)) w) rfl (ev_moveAll (d := 898) (a := 66) (b := 69) rfl rfl (by decide) (by decide) (by decide)) ?_
            refine kx_st 0 (pc' := 28) (L' := [some (.ref 65), some (.int 0), none, none, none]) (st' := []) (h' := kv_wd (kv_uf (kv_up gf 1 8 0) 69 (kx_mv ((kv_up gf 1 8 0) 66) ((kv_up gf 1 8 0) 69) 268)) w) rfl ?_
            refine kx_st 2 (pc' := 30) (L' := [some (.ref 65), some (.int 0), some (.int 0), none, none]) (st' := []) (h' := kv_wd (kv_uf (kv_up gf 1 8 0) 69 (kx_mv ((kv_up gf 1 8 0) 66) ((kv_up gf 1 8 0) 69) 268)) w) rfl ?_
            have h0 := lp_tape0 (E := E) (d := 899) (g := kv_uf (kv_up gf 1 8 0) 69 (kx_mv ((kv_up gf 1 8 0) 66) ((kv_up gf 1 8 0) 69) 268)) (w := w) (P := fun v' h' => v' = some (.int (-10 - nI a1)) ∧ ∃ g2 w2, h' = kv_wd g2 w2 ∧ kx_Rl kx_L g2 w2 (i + 1)) ?_ 50 0 (by omega)
            · rw [kx_fd_0, kv_uf_id] at h0
              exact h0
            · skip
              refine kx_st 0 (pc' := 66) (L' := [some (.ref 65), some (.int 0), some (.int (nI 50)), none, none]) (st' := []) (h' := kv_wd (kv_uf (kv_uf (kv_up gf 1 8 0) 69 (kx_mv ((kv_up gf 1 8 0) 66) ((kv_up gf 1 8 0) 69) 268)) 66 (kx_fd ((kv_uf (kv_up gf 1 8 0) 69 (kx_mv ((kv_up gf 1 8 0) 66) ((kv_up gf 1 8 0) 69) 268)) 66) 168 (fun j => (kv_uf (kv_up gf 1 8 0) 69 (kx_mv ((kv_up gf 1 8 0) 66) ((kv_up gf 1 8 0) 69) 268)) 66 (98 + j)) 50)) w) rfl ?_
              refine kx_st 8 (pc' := 79) (L' := [some (.ref 65), some (.int 0), some (.int (nI 50)), none, none]) (st' := [.int 4, .ref 66, .int 6, .ref 66]) (h' := kv_wd (kv_uf (kv_uf (kv_up gf 1 8 0) 69 (kx_mv ((kv_up gf 1 8 0) 66) ((kv_up gf 1 8 0) 69) 268)) 66 (kx_fd ((kv_uf (kv_up gf 1 8 0) 69 (kx_mv ((kv_up gf 1 8 0) 66) ((kv_up gf 1 8 0) 69) 268)) 66) 168 (fun j => (kv_uf (kv_up gf 1 8 0) 69 (kx_mv ((kv_up gf 1 8 0) 66) ((kv_up gf 1 8 0) 69) 268)) 66 (98 + j)) 50)) w) rfl ?_
              refine kx_ia (k := 4) rfl rfl (by decide) rfl (by decide) (by decide) ?_
              refine kx_is (k := 6) rfl rfl (by decide) rfl (by decide) (by decide) ?_
              refine kx_st 5 (pc' := 86) (L' := [some (.ref 65), some (.int 0), some (.int (nI 50)), none, none]) (st' := [.int 1, .int 1, .int 1, .int 0, .ref 65]) (h' := kv_wd (kv_up (kv_uf (kv_uf (kv_up gf 1 8 0) 69 (kx_mv ((kv_up gf 1 8 0) 66) ((kv_up gf 1 8 0) 69) 268)) 66 (kx_fd ((kv_uf (kv_up gf 1 8 0) 69 (kx_mv ((kv_up gf 1 8 0) 66) ((kv_up gf 1 8 0) 69) 268)) 66) 168 (fun j => (kv_uf (kv_up gf 1 8 0) 69 (kx_mv ((kv_up gf 1 8 0) 66) ((kv_up gf 1 8 0) 69) 268)) 66 (98 + j)) 50)) 66 6 ((kv_uf (kv_uf (kv_up gf 1 8 0) 69 (kx_mv ((kv_up gf 1 8 0) 66) ((kv_up gf 1 8 0) 69) 268)) 66 (kx_fd ((kv_uf (kv_up gf 1 8 0) 69 (kx_mv ((kv_up gf 1 8 0) 66) ((kv_up gf 1 8 0) 69) 268)) 66) 168 (fun j => (kv_uf (kv_up gf 1 8 0) 69 (kx_mv ((kv_up gf 1 8 0) 66) ((kv_up gf 1 8 0) 69) 268)) 66 (98 + j)) 50)) 66 4)) w) rfl ?_
              have H4 : ∀ j, (kv_up (kv_uf (kv_uf (kv_up gf 1 8 0) 69 (kx_mv ((kv_up gf 1 8 0) 66) ((kv_up gf 1 8 0) 69) 268)) 66 (kx_fd ((kv_uf (kv_up gf 1 8 0) 69 (kx_mv ((kv_up gf 1 8 0) 66) ((kv_up gf 1 8 0) 69) 268)) 66) 168 (fun j => (kv_uf (kv_up gf 1 8 0) 69 (kx_mv ((kv_up gf 1 8 0) 66) ((kv_up gf 1 8 0) 69) 268)) 66 (98 + j)) 50)) 66 6 ((kv_uf (kv_uf (kv_up gf 1 8 0) 69 (kx_mv ((kv_up gf 1 8 0) 66) ((kv_up gf 1 8 0) 69) 268)) 66 (kx_fd ((kv_uf (kv_up gf 1 8 0) 69 (kx_mv ((kv_up gf 1 8 0) 66) ((kv_up gf 1 8 0) 69) 268)) 66) 168 (fun j => (kv_uf (kv_up gf 1 8 0) 69 (kx_mv ((kv_up gf 1 8 0) 66) ((kv_up gf 1 8 0) 69) 268)) 66 (98 + j)) 50)) 66 4)) 66 j = if j = 6 then nI n else kx_fd (gf 66) 168 (fun j => gf 66 (98 + j)) 50 j := fun j => by
                show upd (kx_fd (gf 66) 168 (fun j => gf 66 (98 + j)) 50) 6 (kx_fd (gf 66) 168 (fun j => gf 66 (98 + j)) 50 4) j = _
                rw [FN 4 (by omega), show g 66 4 = nI n from t2]
                rfl
              obtain ⟨g86, e86, w1, w2, w3, w4⟩ := ev_walks0 (E := E) (d := 858) (g := kv_up (kv_uf (kv_uf (kv_up gf 1 8 0) 69 (kx_mv ((kv_up gf 1 8 0) 66) ((kv_up gf 1 8 0) 69) 268)) 66 (kx_fd ((kv_uf (kv_up gf 1 8 0) 69 (kx_mv ((kv_up gf 1 8 0) 66) ((kv_up gf 1 8 0) 69) 268)) 66) 168 (fun j => (kv_uf (kv_up gf 1 8 0) 69 (kx_mv ((kv_up gf 1 8 0) 66) ((kv_up gf 1 8 0) 69) 268)) 66 (98 + j)) 50)) 66 6 ((kv_uf (kv_uf (kv_up gf 1 8 0) 69 (kx_mv ((kv_up gf 1 8 0) 66) ((kv_up gf 1 8 0) 69) 268)) 66 (kx_fd ((kv_uf (kv_up gf 1 8 0) 69 (kx_mv ((kv_up gf 1 8 0) 66) ((kv_up gf 1 8 0) 69) 268)) 66) 168 (fun j => (kv_uf (kv_up gf 1 8 0) 69 (kx_mv ((kv_up gf 1 8 0) 66) ((kv_up gf 1 8 0) 69) 268)) 66 (98 + j)) 50)) 66 4)) (w := w) (tx := (fun j => g 66 (98 + j))) (A := 1) (B := 1) (C := 1) n50 ha1 hv2 (by rw [H4, if_pos rfl]) (fun j hj => by rw [show 168 + 50 * 0 + j = 168 + j by omega, H4, if_neg (by omega)]; exact FM j (by omega))
              have w66 : ∀ j, g86 66 j = if j = 6 then nI n else kx_fd (gf 66) 168 (fun j => gf 66 (98 + j)) 50 j := fun j => by rw [w1 66 (by omega)]; exact H4 j
              refine kx_call (z := 166) (as := [.ref 65, .int 0, .int 1, .int 1, .int 1]) (rest := []) (v := some (.int v)) (h1 := kv_wd g86 w) rfl (kx_ev_le (by omega) e86) ?_
              refine kx_st 0 (pc' := 89) (L' := [some (.ref 65), some (.int 0), some (.int (nI 50)), none, none]) (st' := [.int v]) (h' := kv_wd g86 w) rfl ?_
              refine kx_st 3 (pc' := 94) (L' := [some (.ref 65), some (.int 0), some (.int v), none, none]) (st' := [.int (g86 65 14)]) (h' := kv_wd g86 w) rfl ?_
              refine kx_bc (t := 106) rfl rfl (fun (m94 : g86 65 14 = 0) => ?_) (fun (m94 : ¬ (g86 65 14 = 0)) => ?_)
              · refine kx_st 6 (pc' := 115) (L' := [some (.ref 65), some (.int 0), some (.int v), some (.int 0), some (.int (g86 65 8))]) (st' := [.int 0]) (h' := kv_wd g86 w) rfl ?_
                refine kx_st 1 (pc' := 118) (L' := [some (.ref 65), some (.int 0), some (.int v), some (.int 0), some (.int (g86 65 8))]) (st' := []) (h' := kv_wd g86 w) rfl ?_
                refine kx_st 5 (pc' := 127) (L' := [some (.ref 65), some (.int 0), some (.int v), some (.int 0), some (.int (g86 65 8))]) (st' := [.ref 66, .ref 69, .ref 65]) (h' := kv_wd g86 w) rfl ?_
                refine kx_call (z := 133) (as := [.ref 65, .ref 69, .ref 66]) (rest := []) (v := none) (h1 := kv_wd (kv_uf g86 66 (kx_mv (g86 69) (g86 66) 268)) w) rfl (ev_moveAll (d := 898) (a := 69) (b := 66) rfl rfl (by decide) (by decide) (by decide)) ?_
                refine kx_st 0 (pc' := 130) (L' := [some (.ref 65), some (.int 0), some (.int v), some (.int 0), some (.int (g86 65 8))]) (st' := []) (h' := kv_wd (kv_uf g86 66 (kx_mv (g86 69) (g86 66) 268)) w) rfl ?_
                refine kx_st 4 (pc' := 136) (L' := [some (.ref 65), some (.int 0), some (.int v), some (.int 0), some (.int (g86 65 8))]) (st' := [.int 0, .int 4, .ref 66]) (h' := kv_wd (kv_uf g86 66 (kx_mv (g86 69) (g86 66) 268)) w) rfl ?_
                refine kx_is (k := 4) rfl rfl (by decide) rfl (by decide) (by decide) ?_
                refine kx_st 1 (pc' := 138) (L' := [some (.ref 65), some (.int 0), some (.int v), some (.int 0), some (.int (g86 65 8))]) (st' := [.int 0]) (h' := kv_wd (kv_up (kv_uf g86 66 (kx_mv (g86 69) (g86 66) 268)) 66 4 0) w) rfl ?_
                refine kx_st 1 (pc' := 145) (L' := [some (.ref 65), some (.int 0), some (.int v), some (.int 0), some (.int (g86 65 8))]) (st' := []) (h' := kv_wd (kv_up (kv_uf g86 66 (kx_mv (g86 69) (g86 66) 268)) 66 4 0) w) rfl ?_
                refine kx_st 3 (pc' := 150) (L' := [some (.ref 65), some (.int 0), some (.int v), some (.int 0), some (.int (g86 65 8))]) (st' := [.int ((-10) - (g86 65 8))]) (h' := kv_wd (kv_up (kv_uf g86 66 (kx_mv (g86 69) (g86 66) 268)) 66 4 0) w) rfl ?_
                refine kx_ret (v := some (.int ((-10) - (g86 65 8)))) rfl ?_
                obtain ⟨G, eG⟩ : ∃ G : kv_S, G = kv_up (kv_uf g86 66 (kx_mv (g86 69) (g86 66) 268)) 66 4 0 := ⟨_, rfl⟩
                refine ⟨?_, _, w, rfl, ?_⟩
                · show some (Value.int (-10 - g86 65 8)) = _
                  rw [w2]
                rw [← eG]
                have g69 : ∀ j, j < 268 → g86 69 j = g 66 j := fun j hj => by rw [w1 69 (by omega)]; show kx_mv (gf 66) (gf 69) 268 j = _; rw [kx_mvl hj, rf 66 (by omega) (by omega) (by omega) (by omega)]
                have G66 : ∀ j, j < 268 → j ≠ 4 → G 66 j = g 66 j := fun j hj j4 => by rw [eG, kv_up_at, kx_upn j4, kv_uf_self, kx_mvl hj]; exact g69 j hj
                have GC : ∀ b, b ≠ 65 → b ≠ 66 → b ≠ 69 → G b = (kv_up gf 1 8 0) b := fun b b1 b2 b3 => by rw [eG, kv_up_ne b2, kv_uf_ne b2, w1 b b1, kv_up_ne b2, kv_uf_ne b2, kv_uf_ne b3]
                have GF : ∀ b, b ≠ 1 → b ≠ 48 → b ≠ 49 → b ≠ 50 → b ≠ 52 → b ≠ 65 → b ≠ 66 → b ≠ 69 → G b = g b := fun b b1 b4 b5 b6 b7 b8 b9 b10 => by rw [GC b b8 b9 b10, kv_up_ne b1, rf b b4 b5 b6 b7]
                have gf8 : ∀ b, b = 6 ∨ b = 7 ∨ b = 9 ∨ b = 10 → G b = g b := fun b hb => GF b (by omega) (by omega) (by omega) (by omega) (by omega) (by omega) (by omega) (by omega)
                refine kx_Rl_text hR (fun b b1 b6 b7 b8 b9 b10 b11 b44 b65 b66 b68 b69 => GF b b1 (by omega) (by omega) (by omega) (by omega) b65 b66 b69) (fun k hk => ?_) ?_ (fun k hk => ?_) ?_ (fun j j4 j6 j7 hj => G66 j (by omega) j4) ?_ ?_ ?_ ?_
                · rw [GC 1 (by omega) (by omega) (by omega)]
                  show upd (gf 1) 8 0 k = _
                  rw [kx_upn hk, rf 1 (by omega) (by omega) (by omega) (by omega)]
                · rw [GC 1 (by omega) (by omega) (by omega)]; rfl
                · rw [eG, kv_up_ne (by omega), kv_uf_ne (by omega), w4 k hk]
                  show gf 65 k = _
                  rw [rf 65 (by omega) (by omega) (by omega) (by omega)]
                · rw [eG]; rfl
                · rw [gf8 6 (by omega)]
                · rw [gf8 9 (by omega)]
                · rw [gf8 6 (by omega), gf8 7 (by omega)]; exact kx_L_cg rfl (fun _ _ => rfl) (G66 6 (by omega) (by omega)) (fun j hj => G66 _ (by omega) (by omega)) hR.2.2.1.2.2.2.2.2.2.1
                · rw [gf8 9 (by omega), gf8 10 (by omega)]; exact kx_L_cg rfl (fun _ _ => rfl) (G66 7 (by omega) (by omega)) (fun j hj => G66 _ (by omega) (by omega)) hR.2.2.1.2.2.2.2.2.2.2
              · exact absurd (show g86 65 14 = 0 by rw [w3, if_neg hgood]) m94
          · exact absurd ha m6
    · obtain ⟨ok, a1, cd, hb, hx, hm⟩ := (kx_all_1 (tx := (fun j => g 66 (98 + j))) n50 (fun j hj => (t3 j hj).2) 5 0 rfl).2 0 (by omega)
      have ha1 := hb.1.2
      obtain ⟨gf, ef, rf, cf⟩ := ev_fault1 (E := E) (d := 848) (g := g) (w := w) hE n50 ha1 hx (fun j hj => (t3 j hj).1)
      have FM : ∀ j, j < 50 → kx_fd (gf 66) 218 (fun j => gf 66 (98 + j)) 50 (218 + j) = g 66 (98 + j) := fun j hj => by unfold kx_fd; rw [if_pos (by omega), show 218 + j - 218 = j by omega, rf 66 (by omega) (by omega) (by omega) (by omega)]
      have FN : ∀ j, (j < 218 ∨ 268 ≤ j) → kx_fd (gf 66) 218 (fun j => gf 66 (98 + j)) 50 j = g 66 j := fun j hj => by unfold kx_fd; rw [if_neg (by omega), rf 66 (by omega) (by omega) (by omega) (by omega)]
      obtain ⟨v, hv1, hv2⟩ := hm 1 1 1
      by_cases hgood : ok = true ∧ a1 = n
      · refine kx_two (by decide) (Nat.le_of_ble_eq_true rfl) (by decide) (Nat.le_of_ble_eq_true rfl) ?_
        refine kx_st 0 (pc' := 0) (L' := [some (.ref 0), some (.int 1), none, none]) (st' := []) (h' := kv_wd g w) rfl ?_
        refine kx_st 3 (pc' := 5) (L' := [some (.ref 0), some (.int 1), none, none]) (st' := [.int 1, .ref 1]) (h' := kv_wd g w) rfl ?_
        refine kx_call (z := 18) (as := [.ref 1, .int 1]) (rest := []) (v := some (.ref 9)) (h1 := kv_wd g w) rfl (ev_lawAt_1 (d := 898)) ?_
        refine kx_st 0 (pc' := 8) (L' := [some (.ref 0), some (.int 1), none, none]) (st' := [.ref 9]) (h' := kv_wd g w) rfl ?_
        refine kx_st 2 (pc' := 10) (L' := [some (.ref 0), some (.int 1), some (.ref 9), none]) (st' := [.ref 9]) (h' := kv_wd g w) rfl ?_
        refine kx_st 1 (pc' := 19) (L' := [some (.ref 0), some (.int 1), some (.ref 9), none]) (st' := []) (h' := kv_wd g w) rfl ?_
        refine kx_st 9 (pc' := 38) (L' := [some (.ref 0), some (.int 1), some (.ref 9), none]) (st' := [.int 1, .int (g 1 8), .ref 12, .ref 48]) (h' := kv_wd g w) rfl ?_
        refine kx_call (z := 46) (as := [.ref 48, .ref 12, .int (g 1 8), .int 1]) (rest := []) (v := some (.int (-1))) (h1 := kv_wd gf w) rfl (by rw [show g 1 8 = nI n from t1]; have z := ef; rw [if_pos hgood] at z; exact z) ?_
        refine kx_st 0 (pc' := 41) (L' := [some (.ref 0), some (.int 1), some (.ref 9), none]) (st' := [.int (-1)]) (h' := kv_wd gf w) rfl ?_
        refine kx_st 4 (pc' := 47) (L' := [some (.ref 0), some (.int 1), some (.ref 9), some (.int (-1))]) (st' := [.int 0, .ref 1]) (h' := kv_wd gf w) rfl ?_
        refine kx_pf (i := 152) (k := 8) (x := 0) rfl rfl (by decide) rfl (Nat.le_of_ble_eq_true rfl) rfl rfl rfl ?_
        refine kx_st 1 (pc' := 51) (L' := [some (.ref 0), some (.int 1), some (.ref 9), some (.int (-1))]) (st' := [.int (-1)]) (h' := kv_wd (kv_up gf 1 8 0) w) rfl ?_
        refine kx_st 1 (pc' := 59) (L' := [some (.ref 0), some (.int 1), some (.ref 9), some (.int (-1))]) (st' := []) (h' := kv_wd (kv_up gf 1 8 0) w) rfl ?_
        refine kx_st 4 (pc' := 67) (L' := [some (.ref 0), some (.int 1), some (.ref 9), some (.int (-1))]) (st' := [.ref 49, .ref 9]) (h' := kv_wd (kv_up gf 1 8 0) w) rfl ?_
        refine kx_call (z := 36) (as := [.ref 9, .ref 49]) (rest := []) (v := none) (h1 := kv_wd (kv_up (kv_uf (kv_up gf 1 8 0) 10 (va_cpy ((kv_up gf 1 8 0) 50) ((kv_up gf 1 8 0) 10) 0 0 50)) 9 2 ((kv_up gf 1 8 0) 49 2)) w) rfl (ev_lcopyD1 (d := 898)) ?_
        refine kx_st 0 (pc' := 70) (L' := [some (.ref 0), some (.int 1), some (.ref 9), some (.int (-1))]) (st' := []) (h' := kv_wd (kv_up (kv_uf (kv_up gf 1 8 0) 10 (va_cpy ((kv_up gf 1 8 0) 50) ((kv_up gf 1 8 0) 10) 0 0 50)) 9 2 ((kv_up gf 1 8 0) 49 2)) w) rfl ?_
        refine kx_st 1 (pc' := 71) (L' := [some (.ref 0), some (.int 1), some (.ref 9), some (.int (-1))]) (st' := [.int 1]) (h' := kv_wd (kv_up (kv_uf (kv_up gf 1 8 0) 10 (va_cpy ((kv_up gf 1 8 0) 50) ((kv_up gf 1 8 0) 10) 0 0 50)) 9 2 ((kv_up gf 1 8 0) 49 2)) w) rfl ?_
        refine kx_ret (v := some (.int 1)) rfl ?_
        refine ⟨_, _, _, rfl, rfl, ?_⟩
        refine kx_st 0 (pc' := 0) (L' := [some (.ref 65), some (.int 1), none, none, none]) (st' := []) (h' := kv_wd (kv_up (kv_uf (kv_up gf 1 8 0) 10 (va_cpy ((kv_up gf 1 8 0) 50) ((kv_up gf 1 8 0) 10) 0 0 50)) 9 2 ((kv_up gf 1 8 0) 49 2)) w) rfl ?_
        refine kx_st 3 (pc' := 3) (L' := [some (.ref 65), some (.int 1), none, none, none]) (st' := [.int 1, .int 0, .int 1]) (h' := kv_wd (kv_up (kv_uf (kv_up gf 1 8 0) 10 (va_cpy ((kv_up gf 1 8 0) 50) ((kv_up gf 1 8 0) 10) 0 0 50)) 9 2 ((kv_up gf 1 8 0) 49 2)) w) rfl ?_
        refine kx_call (z := 130) (as := [.int 1, .int 0, .int 1]) (rest := []) (v := some (.int (kx_b (0 ≤ (1 : Int32) ∧ (1 : Int32) ≤ 1)))) (h1 := kv_wd (kv_up (kv_uf (kv_up gf 1 8 0) 10 (va_cpy ((kv_up gf 1 8 0) 50) ((kv_up gf 1 8 0) 10) 0 0 50)) 9 2 ((kv_up gf 1 8 0) 49 2)) w) rfl (ev_in (d := 898) 1 0 1) ?_
        refine kx_st 0 (pc' := 6) (L' := [some (.ref 65), some (.int 1), none, none, none]) (st' := [.int (kx_b (0 ≤ (1 : Int32) ∧ (1 : Int32) ≤ 1))]) (h' := kv_wd (kv_up (kv_uf (kv_up gf 1 8 0) 10 (va_cpy ((kv_up gf 1 8 0) 50) ((kv_up gf 1 8 0) 10) 0 0 50)) 9 2 ((kv_up gf 1 8 0) 49 2)) w) rfl ?_
        refine kx_bn (t := 16) rfl rfl (fun (m6 : (0 ≤ (1 : Int32) ∧ (1 : Int32) ≤ 1)) => ?_) (fun (m6 : ¬ (0 ≤ (1 : Int32) ∧ (1 : Int32) ≤ 1)) => ?_)
        · refine kx_st 5 (pc' := 25) (L' := [some (.ref 65), some (.int 1), none, none, none]) (st' := [.ref 69, .ref 66, .ref 65]) (h' := kv_wd (kv_up (kv_uf (kv_up gf 1 8 0) 10 (va_cpy ((kv_up gf 1 8 0) 50) ((kv_up gf 1 8 0) 10) 0 0 50)) 9 2 ((kv_up gf 1 8 0) 49 2)) w) rfl ?_
          refine kx_call (z := 133) (as := [.ref 65, .ref 66, .ref 69]) (rest := []) (v := none) (h1 := kv_wd (kv_uf (kv_up (kv_uf (kv_up gf 1 8 0) 10 (va_cpy ((kv_up gf 1 8 0) 50) ((kv_up gf 1 8 0) 10) 0 0 50)) 9 2 ((kv_up gf 1 8 0) 49 2)) 69 (kx_mv ((kv_up (kv_uf (kv_up gf 1 8 0) 10 (va_cpy ((kv_up gf 1 8 0) 50) ((kv_up gf 1 8 0) 10) 0 0 50)) 9 2 ((kv_up gf 1 8 0) 49 2)) 66) ((kv_up (kv_uf (kv_up gf 1 8 0) 10 (va_cpy ((kv_up gf 1 8 0) 50) ((kv_up gf 1 8 0) 10) 0 0 50)) 9 2 ((kv_up gf 1 8 0) 49 2)) 69) 268)) w) rfl (ev_moveAll (d := 898) (a := 66) (b := 69) rfl rfl (by decide) (by decide) (by decide)) ?_
          refine kx_st 0 (pc' := 28) (L' := [some (.ref 65), some (.int 1), none, none, none]) (st' := []) (h' := kv_wd (kv_uf (kv_up (kv_uf (kv_up gf 1 8 0) 10 (va_cpy ((kv_up gf 1 8 0) 50) ((kv_up gf 1 8 0) 10) 0 0 50)) 9 2 ((kv_up gf 1 8 0) 49 2)) 69 (kx_mv ((kv_up (kv_uf (kv_up gf 1 8 0) 10 (va_cpy ((kv_up gf 1 8 0) 50) ((kv_up gf 1 8 0) 10) 0 0 50)) 9 2 ((kv_up gf 1 8 0) 49 2)) 66) ((kv_up (kv_uf (kv_up gf 1 8 0) 10 (va_cpy ((kv_up gf 1 8 0) 50) ((kv_up gf 1 8 0) 10) 0 0 50)) 9 2 ((kv_up gf 1 8 0) 49 2)) 69) 268)) w) rfl ?_
          refine kx_st 2 (pc' := 30) (L' := [some (.ref 65), some (.int 1), some (.int 0), none, none]) (st' := []) (h' := kv_wd (kv_uf (kv_up (kv_uf (kv_up gf 1 8 0) 10 (va_cpy ((kv_up gf 1 8 0) 50) ((kv_up gf 1 8 0) 10) 0 0 50)) 9 2 ((kv_up gf 1 8 0) 49 2)) 69 (kx_mv ((kv_up (kv_uf (kv_up gf 1 8 0) 10 (va_cpy ((kv_up gf 1 8 0) 50) ((kv_up gf 1 8 0) 10) 0 0 50)) 9 2 ((kv_up gf 1 8 0) 49 2)) 66) ((kv_up (kv_uf (kv_up gf 1 8 0) 10 (va_cpy ((kv_up gf 1 8 0) 50) ((kv_up gf 1 8 0) 10) 0 0 50)) 9 2 ((kv_up gf 1 8 0) 49 2)) 69) 268)) w) rfl ?_
          have h0 := lp_tape1 (E := E) (d := 899) (g := kv_uf (kv_up (kv_uf (kv_up gf 1 8 0) 10 (va_cpy ((kv_up gf 1 8 0) 50) ((kv_up gf 1 8 0) 10) 0 0 50)) 9 2 ((kv_up gf 1 8 0) 49 2)) 69 (kx_mv ((kv_up (kv_uf (kv_up gf 1 8 0) 10 (va_cpy ((kv_up gf 1 8 0) 50) ((kv_up gf 1 8 0) 10) 0 0 50)) 9 2 ((kv_up gf 1 8 0) 49 2)) 66) ((kv_up (kv_uf (kv_up gf 1 8 0) 10 (va_cpy ((kv_up gf 1 8 0) 50) ((kv_up gf 1 8 0) 10) 0 0 50)) 9 2 ((kv_up gf 1 8 0) 49 2)) 69) 268)) (w := w) (P := fun v' h' => v' = some (.int 1) ∧ ∃ g2 w2, h' = kv_wd g2 w2 ∧ kx_Rl kx_L g2 w2 (i + 1)) ?_ 50 0 (by omega)
          · rw [kx_fd_0, kv_uf_id] at h0
            exact h0
          · skip
            refine kx_st 0 (pc' := 66) (L' := [some (.ref 65), some (.int 1), some (.int (nI 50)), none, none]) (st' := []) (h' := kv_wd (kv_uf (kv_uf (kv_up (kv_uf (kv_up gf 1 8 0) 10 (va_cpy ((kv_up gf 1 8 0) 50) ((kv_up gf 1 8 0) 10) 0 0 50)) 9 2 ((kv_up gf 1 8 0) 49 2)) 69 (kx_mv ((kv_up (kv_uf (kv_up gf 1 8 0) 10 (va_cpy ((kv_up gf 1 8 0) 50) ((kv_up gf 1 8 0) 10) 0 0 50)) 9 2 ((kv_up gf 1 8 0) 49 2)) 66) ((kv_up (kv_uf (kv_up gf 1 8 0) 10 (va_cpy ((kv_up gf 1 8 0) 50) ((kv_up gf 1 8 0) 10) 0 0 50)) 9 2 ((kv_up gf 1 8 0) 49 2)) 69) 268)) 66 (kx_fd ((kv_uf (kv_up (kv_uf (kv_up gf 1 8 0) 10 (va_cpy ((kv_up gf 1 8 0) 50) ((kv_up gf 1 8 0) 10) 0 0 50)) 9 2 ((kv_up gf 1 8 0) 49 2)) 69 (kx_mv ((kv_up (kv_uf (kv_up gf 1 8 0) 10 (va_cpy ((kv_up gf 1 8 0) 50) ((kv_up gf 1 8 0) 10) 0 0 50)) 9 2 ((kv_up gf 1 8 0) 49 2)) 66) ((kv_up (kv_uf (kv_up gf 1 8 0) 10 (va_cpy ((kv_up gf 1 8 0) 50) ((kv_up gf 1 8 0) 10) 0 0 50)) 9 2 ((kv_up gf 1 8 0) 49 2)) 69) 268)) 66) 218 (fun j => (kv_uf (kv_up (kv_uf (kv_up gf 1 8 0) 10 (va_cpy ((kv_up gf 1 8 0) 50) ((kv_up gf 1 8 0) 10) 0 0 50)) 9 2 ((kv_up gf 1 8 0) 49 2)) 69 (kx_mv ((kv_up (kv_uf (kv_up gf 1 8 0) 10 (va_cpy ((kv_up gf 1 8 0) 50) ((kv_up gf 1 8 0) 10) 0 0 50)) 9 2 ((kv_up gf 1 8 0) 49 2)) 66) ((kv_up (kv_uf (kv_up gf 1 8 0) 10 (va_cpy ((kv_up gf 1 8 0) 50) ((kv_up gf 1 8 0) 10) 0 0 50)) 9 2 ((kv_up gf 1 8 0) 49 2)) 69) 268)) 66 (98 + j)) 50)) w) rfl ?_
            refine kx_st 8 (pc' := 79) (L' := [some (.ref 65), some (.int 1), some (.int (nI 50)), none, none]) (st' := [.int 4, .ref 66, .int 7, .ref 66]) (h' := kv_wd (kv_uf (kv_uf (kv_up (kv_uf (kv_up gf 1 8 0) 10 (va_cpy ((kv_up gf 1 8 0) 50) ((kv_up gf 1 8 0) 10) 0 0 50)) 9 2 ((kv_up gf 1 8 0) 49 2)) 69 (kx_mv ((kv_up (kv_uf (kv_up gf 1 8 0) 10 (va_cpy ((kv_up gf 1 8 0) 50) ((kv_up gf 1 8 0) 10) 0 0 50)) 9 2 ((kv_up gf 1 8 0) 49 2)) 66) ((kv_up (kv_uf (kv_up gf 1 8 0) 10 (va_cpy ((kv_up gf 1 8 0) 50) ((kv_up gf 1 8 0) 10) 0 0 50)) 9 2 ((kv_up gf 1 8 0) 49 2)) 69) 268)) 66 (kx_fd ((kv_uf (kv_up (kv_uf (kv_up gf 1 8 0) 10 (va_cpy ((kv_up gf 1 8 0) 50) ((kv_up gf 1 8 0) 10) 0 0 50)) 9 2 ((kv_up gf 1 8 0) 49 2)) 69 (kx_mv ((kv_up (kv_uf (kv_up gf 1 8 0) 10 (va_cpy ((kv_up gf 1 8 0) 50) ((kv_up gf 1 8 0) 10) 0 0 50)) 9 2 ((kv_up gf 1 8 0) 49 2)) 66) ((kv_up (kv_uf (kv_up gf 1 8 0) 10 (va_cpy ((kv_up gf 1 8 0) 50) ((kv_up gf 1 8 0) 10) 0 0 50)) 9 2 ((kv_up gf 1 8 0) 49 2)) 69) 268)) 66) 218 (fun j => (kv_uf (kv_up (kv_uf (kv_up gf 1 8 0) 10 (va_cpy ((kv_up gf 1 8 0) 50) ((kv_up gf 1 8 0) 10) 0 0 50)) 9 2 ((kv_up gf 1 8 0) 49 2)) 69 (kx_mv ((kv_up (kv_uf (kv_up gf 1 8 0) 10 (va_cpy ((kv_up gf 1 8 0) 50) ((kv_up gf 1 8 0) 10) 0 0 50)) 9 2 ((kv_up gf 1 8 0) 49 2)) 66) ((kv_up (kv_uf (kv_up gf 1 8 0) 10 (va_cpy ((kv_up gf 1 8 0) 50) ((kv_up gf 1 8 0) 10) 0 0 50)) 9 2 ((kv_up gf 1 8 0) 49 2)) 69) 268)) 66 (98 + j)) 50)) w) rfl ?_
            refine kx_ia (k := 4) rfl rfl (by decide) rfl (by decide) (by decide) ?_
            refine kx_is (k := 7) rfl rfl (by decide) rfl (by decide) (by decide) ?_
            refine kx_st 5 (pc' := 86) (L' := [some (.ref 65), some (.int 1), some (.int (nI 50)), none, none]) (st' := [.int 1, .int 1, .int 1, .int 1, .ref 65]) (h' := kv_wd (kv_up (kv_uf (kv_uf (kv_up (kv_uf (kv_up gf 1 8 0) 10 (va_cpy ((kv_up gf 1 8 0) 50) ((kv_up gf 1 8 0) 10) 0 0 50)) 9 2 ((kv_up gf 1 8 0) 49 2)) 69 (kx_mv ((kv_up (kv_uf (kv_up gf 1 8 0) 10 (va_cpy ((kv_up gf 1 8 0) 50) ((kv_up gf 1 8 0) 10) 0 0 50)) 9 2 ((kv_up gf 1 8 0) 49 2)) 66) ((kv_up (kv_uf (kv_up gf 1 8 0) 10 (va_cpy ((kv_up gf 1 8 0) 50) ((kv_up gf 1 8 0) 10) 0 0 50)) 9 2 ((kv_up gf 1 8 0) 49 2)) 69) 268)) 66 (kx_fd ((kv_uf (kv_up (kv_uf (kv_up gf 1 8 0) 10 (va_cpy ((kv_up gf 1 8 0) 50) ((kv_up gf 1 8 0) 10) 0 0 50)) 9 2 ((kv_up gf 1 8 0) 49 2)) 69 (kx_mv ((kv_up (kv_uf (kv_up gf 1 8 0) 10 (va_cpy ((kv_up gf 1 8 0) 50) ((kv_up gf 1 8 0) 10) 0 0 50)) 9 2 ((kv_up gf 1 8 0) 49 2)) 66) ((kv_up (kv_uf (kv_up gf 1 8 0) 10 (va_cpy ((kv_up gf 1 8 0) 50) ((kv_up gf 1 8 0) 10) 0 0 50)) 9 2 ((kv_up gf 1 8 0) 49 2)) 69) 268)) 66) 218 (fun j => (kv_uf (kv_up (kv_uf (kv_up gf 1 8 0) 10 (va_cpy ((kv_up gf 1 8 0) 50) ((kv_up gf 1 8 0) 10) 0 0 50)) 9 2 ((kv_up gf 1 8 0) 49 2)) 69 (kx_mv ((kv_up (kv_uf (kv_up gf 1 8 0) 10 (va_cpy ((kv_up gf 1 8 0) 50) ((kv_up gf 1 8 0) 10) 0 0 50)) 9 2 ((kv_up gf 1 8 0) 49 2)) 66) ((kv_up (kv_uf (kv_up gf 1 8 0) 10 (va_cpy ((kv_up gf 1 8 0) 50) ((kv_up gf 1 8 0) 10) 0 0 50)) 9 2 ((kv_up gf 1 8 0) 49 2)) 69) 268)) 66 (98 + j)) 50)) 66 7 ((kv_uf (kv_uf (kv_up (kv_uf (kv_up gf 1 8 0) 10 (va_cpy ((kv_up gf 1 8 0) 50) ((kv_up gf 1 8 0) 10) 0 0 50)) 9 2 ((kv_up gf 1 8 0) 49 2)) 69 (kx_mv ((kv_up (kv_uf (kv_up gf 1 8 0) 10 (va_cpy ((kv_up gf 1 8 0) 50) ((kv_up gf 1 8 0) 10) 0 0 50)) 9 2 ((kv_up gf 1 8 0) 49 2)) 66) ((kv_up (kv_uf (kv_up gf 1 8 0) 10 (va_cpy ((kv_up gf 1 8 0) 50) ((kv_up gf 1 8 0) 10) 0 0 50)) 9 2 ((kv_up gf 1 8 0) 49 2)) 69) 268)) 66 (kx_fd ((kv_uf (kv_up (kv_uf (kv_up gf 1 8 0) 10 (va_cpy ((kv_up gf 1 8 0) 50) ((kv_up gf 1 8 0) 10) 0 0 50)) 9 2 ((kv_up gf 1 8 0) 49 2)) 69 (kx_mv ((kv_up (kv_uf (kv_up gf 1 8 0) 10 (va_cpy ((kv_up gf 1 8 0) 50) ((kv_up gf 1 8 0) 10) 0 0 50)) 9 2 ((kv_up gf 1 8 0) 49 2)) 66) ((kv_up (kv_uf (kv_up gf 1 8 0) 10 (va_cpy ((kv_up gf 1 8 0) 50) ((kv_up gf 1 8 0) 10) 0 0 50)) 9 2 ((kv_up gf 1 8 0) 49 2)) 69) 268)) 66) 218 (fun j => (kv_uf (kv_up (kv_uf (kv_up gf 1 8 0) 10 (va_cpy ((kv_up gf 1 8 0) 50) ((kv_up gf 1 8 0) 10) 0 0 50)) 9 2 ((kv_up gf 1 8 0) 49 2)) 69 (kx_mv ((kv_up (kv_uf (kv_up gf 1 8 0) 10 (va_cpy ((kv_up gf 1 8 0) 50) ((kv_up gf 1 8 0) 10) 0 0 50)) 9 2 ((kv_up gf 1 8 0) 49 2)) 66) ((kv_up (kv_uf (kv_up gf 1 8 0) 10 (va_cpy ((kv_up gf 1 8 0) 50) ((kv_up gf 1 8 0) 10) 0 0 50)) 9 2 ((kv_up gf 1 8 0) 49 2)) 69) 268)) 66 (98 + j)) 50)) 66 4)) w) rfl ?_
            have H4 : ∀ j, (kv_up (kv_uf (kv_uf (kv_up (kv_uf (kv_up gf 1 8 0) 10 (va_cpy ((kv_up gf 1 8 0) 50) ((kv_up gf 1 8 0) 10) 0 0 50)) 9 2 ((kv_up gf 1 8 0) 49 2)) 69 (kx_mv ((kv_up (kv_uf (kv_up gf 1 8 0) 10 (va_cpy ((kv_up gf 1 8 0) 50) ((kv_up gf 1 8 0) 10) 0 0 50)) 9 2 ((kv_up gf 1 8 0) 49 2)) 66) ((kv_up (kv_uf (kv_up gf 1 8 0) 10 (va_cpy ((kv_up gf 1 8 0) 50) ((kv_up gf 1 8 0) 10) 0 0 50)) 9 2 ((kv_up gf 1 8 0) 49 2)) 69) 268)) 66 (kx_fd ((kv_uf (kv_up (kv_uf (kv_up gf 1 8 0) 10 (va_cpy ((kv_up gf 1 8 0) 50) ((kv_up gf 1 8 0) 10) 0 0 50)) 9 2 ((kv_up gf 1 8 0) 49 2)) 69 (kx_mv ((kv_up (kv_uf (kv_up gf 1 8 0) 10 (va_cpy ((kv_up gf 1 8 0) 50) ((kv_up gf 1 8 0) 10) 0 0 50)) 9 2 ((kv_up gf 1 8 0) 49 2)) 66) ((kv_up (kv_uf (kv_up gf 1 8 0) 10 (va_cpy ((kv_up gf 1 8 0) 50) ((kv_up gf 1 8 0) 10) 0 0 50)) 9 2 ((kv_up gf 1 8 0) 49 2)) 69) 268)) 66) 218 (fun j => (kv_uf (kv_up (kv_uf (kv_up gf 1 8 0) 10 (va_cpy ((kv_up gf 1 8 0) 50) ((kv_up gf 1 8 0) 10) 0 0 50)) 9 2 ((kv_up gf 1 8 0) 49 2)) 69 (kx_mv ((kv_up (kv_uf (kv_up gf 1 8 0) 10 (va_cpy ((kv_up gf 1 8 0) 50) ((kv_up gf 1 8 0) 10) 0 0 50)) 9 2 ((kv_up gf 1 8 0) 49 2)) 66) ((kv_up (kv_uf (kv_up gf 1 8 0) 10 (va_cpy ((kv_up gf 1 8 0) 50) ((kv_up gf 1 8 0) 10) 0 0 50)) 9 2 ((kv_up gf 1 8 0) 49 2)) 69) 268)) 66 (98 + j)) 50)) 66 7 ((kv_uf (kv_uf (kv_up (kv_uf (kv_up gf 1 8 0) 10 (va_cpy ((kv_up gf 1 8 0) 50) ((kv_up gf 1 8 0) 10) 0 0 50)) 9 2 ((kv_up gf 1 8 0) 49 2)) 69 (kx_mv ((kv_up (kv_uf (kv_up gf 1 8 0) 10 (va_cpy ((kv_up gf 1 8 0) 50) ((kv_up gf 1 8 0) 10) 0 0 50)) 9 2 ((kv_up gf 1 8 0) 49 2)) 66) ((kv_up (kv_uf (kv_up gf 1 8 0) 10 (va_cpy ((kv_up gf 1 8 0) 50) ((kv_up gf 1 8 0) 10) 0 0 50)) 9 2 ((kv_up gf 1 8 0) 49 2)) 69) 268)) 66 (kx_fd ((kv_uf (kv_up (kv_uf (kv_up gf 1 8 0) 10 (va_cpy ((kv_up gf 1 8 0) 50) ((kv_up gf 1 8 0) 10) 0 0 50)) 9 2 ((kv_up gf 1 8 0) 49 2)) 69 (kx_mv ((kv_up (kv_uf (kv_up gf 1 8 0) 10 (va_cpy ((kv_up gf 1 8 0) 50) ((kv_up gf 1 8 0) 10) 0 0 50)) 9 2 ((kv_up gf 1 8 0) 49 2)) 66) ((kv_up (kv_uf (kv_up gf 1 8 0) 10 (va_cpy ((kv_up gf 1 8 0) 50) ((kv_up gf 1 8 0) 10) 0 0 50)) 9 2 ((kv_up gf 1 8 0) 49 2)) 69) 268)) 66) 218 (fun j => (kv_uf (kv_up (kv_uf (kv_up gf 1 8 0) 10 (va_cpy ((kv_up gf 1 8 0) 50) ((kv_up gf 1 8 0) 10) 0 0 50)) 9 2 ((kv_up gf 1 8 0) 49 2)) 69 (kx_mv ((kv_up (kv_uf (kv_up gf 1 8 0) 10 (va_cpy ((kv_up gf 1 8 0) 50) ((kv_up gf 1 8 0) 10) 0 0 50)) 9 2 ((kv_up gf 1 8 0) 49 2)) 66) ((kv_up (kv_uf (kv_up gf 1 8 0) 10 (va_cpy ((kv_up gf 1 8 0) 50) ((kv_up gf 1 8 0) 10) 0 0 50)) 9 2 ((kv_up gf 1 8 0) 49 2)) 69) 268)) 66 (98 + j)) 50)) 66 4)) 66 j = if j = 7 then nI n else kx_fd (gf 66) 218 (fun j => gf 66 (98 + j)) 50 j := fun j => by
              show upd (kx_fd (gf 66) 218 (fun j => gf 66 (98 + j)) 50) 7 (kx_fd (gf 66) 218 (fun j => gf 66 (98 + j)) 50 4) j = _
              rw [FN 4 (by omega), show g 66 4 = nI n from t2]
              rfl
            obtain ⟨g86, e86, w1, w2, w3, w4⟩ := ev_walks1 (E := E) (d := 858) (g := kv_up (kv_uf (kv_uf (kv_up (kv_uf (kv_up gf 1 8 0) 10 (va_cpy ((kv_up gf 1 8 0) 50) ((kv_up gf 1 8 0) 10) 0 0 50)) 9 2 ((kv_up gf 1 8 0) 49 2)) 69 (kx_mv ((kv_up (kv_uf (kv_up gf 1 8 0) 10 (va_cpy ((kv_up gf 1 8 0) 50) ((kv_up gf 1 8 0) 10) 0 0 50)) 9 2 ((kv_up gf 1 8 0) 49 2)) 66) ((kv_up (kv_uf (kv_up gf 1 8 0) 10 (va_cpy ((kv_up gf 1 8 0) 50) ((kv_up gf 1 8 0) 10) 0 0 50)) 9 2 ((kv_up gf 1 8 0) 49 2)) 69) 268)) 66 (kx_fd ((kv_uf (kv_up (kv_uf (kv_up gf 1 8 0) 10 (va_cpy ((kv_up gf 1 8 0) 50) ((kv_up gf 1 8 0) 10) 0 0 50)) 9 2 ((kv_up gf 1 8 0) 49 2)) 69 (kx_mv ((kv_up (kv_uf (kv_up gf 1 8 0) 10 (va_cpy ((kv_up gf 1 8 0) 50) ((kv_up gf 1 8 0) 10) 0 0 50)) 9 2 ((kv_up gf 1 8 0) 49 2)) 66) ((kv_up (kv_uf (kv_up gf 1 8 0) 10 (va_cpy ((kv_up gf 1 8 0) 50) ((kv_up gf 1 8 0) 10) 0 0 50)) 9 2 ((kv_up gf 1 8 0) 49 2)) 69) 268)) 66) 218 (fun j => (kv_uf (kv_up (kv_uf (kv_up gf 1 8 0) 10 (va_cpy ((kv_up gf 1 8 0) 50) ((kv_up gf 1 8 0) 10) 0 0 50)) 9 2 ((kv_up gf 1 8 0) 49 2)) 69 (kx_mv ((kv_up (kv_uf (kv_up gf 1 8 0) 10 (va_cpy ((kv_up gf 1 8 0) 50) ((kv_up gf 1 8 0) 10) 0 0 50)) 9 2 ((kv_up gf 1 8 0) 49 2)) 66) ((kv_up (kv_uf (kv_up gf 1 8 0) 10 (va_cpy ((kv_up gf 1 8 0) 50) ((kv_up gf 1 8 0) 10) 0 0 50)) 9 2 ((kv_up gf 1 8 0) 49 2)) 69) 268)) 66 (98 + j)) 50)) 66 7 ((kv_uf (kv_uf (kv_up (kv_uf (kv_up gf 1 8 0) 10 (va_cpy ((kv_up gf 1 8 0) 50) ((kv_up gf 1 8 0) 10) 0 0 50)) 9 2 ((kv_up gf 1 8 0) 49 2)) 69 (kx_mv ((kv_up (kv_uf (kv_up gf 1 8 0) 10 (va_cpy ((kv_up gf 1 8 0) 50) ((kv_up gf 1 8 0) 10) 0 0 50)) 9 2 ((kv_up gf 1 8 0) 49 2)) 66) ((kv_up (kv_uf (kv_up gf 1 8 0) 10 (va_cpy ((kv_up gf 1 8 0) 50) ((kv_up gf 1 8 0) 10) 0 0 50)) 9 2 ((kv_up gf 1 8 0) 49 2)) 69) 268)) 66 (kx_fd ((kv_uf (kv_up (kv_uf (kv_up gf 1 8 0) 10 (va_cpy ((kv_up gf 1 8 0) 50) ((kv_up gf 1 8 0) 10) 0 0 50)) 9 2 ((kv_up gf 1 8 0) 49 2)) 69 (kx_mv ((kv_up (kv_uf (kv_up gf 1 8 0) 10 (va_cpy ((kv_up gf 1 8 0) 50) ((kv_up gf 1 8 0) 10) 0 0 50)) 9 2 ((kv_up gf 1 8 0) 49 2)) 66) ((kv_up (kv_uf (kv_up gf 1 8 0) 10 (va_cpy ((kv_up gf 1 8 0) 50) ((kv_up gf 1 8 0) 10) 0 0 50)) 9 2 ((kv_up gf 1 8 0) 49 2)) 69) 268)) 66) 218 (fun j => (kv_uf (kv_up (kv_uf (kv_up gf 1 8 0) 10 (va_cpy ((kv_up gf 1 8 0) 50) ((kv_up gf 1 8 0) 10) 0 0 50)) 9 2 ((kv_up gf 1 8 0) 49 2)) 69 (kx_mv ((kv_up (kv_uf (kv_up gf 1 8 0) 10 (va_cpy ((kv_up gf 1 8 0) 50) ((kv_up gf 1 8 0) 10) 0 0 50)) 9 2 ((kv_up gf 1 8 0) 49 2)) 66) ((kv_up (kv_uf (kv_up gf 1 8 0) 10 (va_cpy ((kv_up gf 1 8 0) 50) ((kv_up gf 1 8 0) 10) 0 0 50)) 9 2 ((kv_up gf 1 8 0) 49 2)) 69) 268)) 66 (98 + j)) 50)) 66 4)) (w := w) (tx := (fun j => g 66 (98 + j))) (A := 1) (B := 1) (C := 1) n50 ha1 hv2 (by rw [H4, if_pos rfl]) (fun j hj => by rw [show 168 + 50 * 1 + j = 218 + j by omega, H4, if_neg (by omega)]; exact FM j (by omega))
            have w66 : ∀ j, g86 66 j = if j = 7 then nI n else kx_fd (gf 66) 218 (fun j => gf 66 (98 + j)) 50 j := fun j => by rw [w1 66 (by omega)]; exact H4 j
            refine kx_call (z := 166) (as := [.ref 65, .int 1, .int 1, .int 1, .int 1]) (rest := []) (v := some (.int v)) (h1 := kv_wd g86 w) rfl (kx_ev_le (by omega) e86) ?_
            refine kx_st 0 (pc' := 89) (L' := [some (.ref 65), some (.int 1), some (.int (nI 50)), none, none]) (st' := [.int v]) (h' := kv_wd g86 w) rfl ?_
            refine kx_st 3 (pc' := 94) (L' := [some (.ref 65), some (.int 1), some (.int v), none, none]) (st' := [.int (g86 65 14)]) (h' := kv_wd g86 w) rfl ?_
            refine kx_bc (t := 106) rfl rfl (fun (m94 : g86 65 14 = 0) => ?_) (fun (m94 : ¬ (g86 65 14 = 0)) => ?_)
            · exact absurd m94 (by rw [w3, if_pos hgood]; decide)
            · refine kx_st 0 (pc' := 97) (L' := [some (.ref 65), some (.int 1), some (.int v), none, none]) (st' := []) (h' := kv_wd g86 w) rfl ?_
              refine kx_st 2 (pc' := 99) (L' := [some (.ref 65), some (.int 1), some (.int v), none, none]) (st' := [.int v, .int v]) (h' := kv_wd g86 w) rfl ?_
              refine kx_bi (t := 106) rfl rfl (fun (m99 : ¬ v = v) => ?_) (fun (m99 : ¬ (¬ v = v)) => ?_)
              · exact absurd rfl m99
              · refine kx_st 0 (pc' := 102) (L' := [some (.ref 65), some (.int 1), some (.int v), none, none]) (st' := []) (h' := kv_wd g86 w) rfl ?_
                refine kx_st 7 (pc' := 115) (L' := [some (.ref 65), some (.int 1), some (.int v), some (.int 1), some (.int (g86 65 8))]) (st' := [.int 1]) (h' := kv_wd g86 w) rfl ?_
                refine kx_st 1 (pc' := 130) (L' := [some (.ref 65), some (.int 1), some (.int v), some (.int 1), some (.int (g86 65 8))]) (st' := []) (h' := kv_wd g86 w) rfl ?_
                refine kx_st 4 (pc' := 136) (L' := [some (.ref 65), some (.int 1), some (.int v), some (.int 1), some (.int (g86 65 8))]) (st' := [.int 0, .int 4, .ref 66]) (h' := kv_wd g86 w) rfl ?_
                refine kx_is (k := 4) rfl rfl (by decide) rfl (by decide) (by decide) ?_
                refine kx_st 1 (pc' := 138) (L' := [some (.ref 65), some (.int 1), some (.int v), some (.int 1), some (.int (g86 65 8))]) (st' := [.int 1]) (h' := kv_wd (kv_up g86 66 4 0) w) rfl ?_
                refine kx_st 1 (pc' := 141) (L' := [some (.ref 65), some (.int 1), some (.int v), some (.int 1), some (.int (g86 65 8))]) (st' := []) (h' := kv_wd (kv_up g86 66 4 0) w) rfl ?_
                refine kx_st 2 (pc' := 150) (L' := [some (.ref 65), some (.int 1), some (.int v), some (.int 1), some (.int (g86 65 8))]) (st' := [.int 1]) (h' := kv_wd (kv_up g86 66 4 0) w) rfl ?_
                refine kx_ret (v := some (.int 1)) rfl ?_
                obtain ⟨G, eG⟩ : ∃ G : kv_S, G = kv_up g86 66 4 0 := ⟨_, rfl⟩
                refine ⟨rfl, _, w, rfl, ?_⟩
                rw [← eG]
                obtain ⟨hok, rfl⟩ := hgood
                subst hok
                have Gb : ∀ b, b ≠ 65 → b ≠ 66 → G b = g86 b := fun b _ b66 => by rw [eG, kv_up_ne b66]
                have G66 : ∀ j, j ≠ 4 → G 66 j = g86 66 j := fun j hj => by rw [eG, kv_up_at, kx_upn hj]
                have GC : ∀ b, b ≠ 65 → b ≠ 66 → b ≠ 69 → G b = (kv_up (kv_uf (kv_up gf 1 8 0) 10 (va_cpy ((kv_up gf 1 8 0) 50) ((kv_up gf 1 8 0) 10) 0 0 50)) 9 2 ((kv_up gf 1 8 0) 49 2)) b := fun b b1 b2 b3 => by rw [Gb b b1 b2, w1 b b1, kv_up_ne b2, kv_uf_ne b2, kv_uf_ne b3]
                have GF : ∀ b, b ≠ 1 → b ≠ 9 → b ≠ 10 → b ≠ 48 → b ≠ 49 → b ≠ 50 → b ≠ 52 → b ≠ 65 → b ≠ 66 → b ≠ 69 → G b = g b := fun b b1 b2 b3 b4 b5 b6 b7 b8 b9 b10 => by rw [GC b b8 b9 b10, kv_up_ne b2, kv_uf_ne b3, kv_up_ne b1, rf b b4 b5 b6 b7]
                have cl := cf rfl
                refine kx_Rl_text hR (fun b b1 b6 b7 b8 b9 b10 b11 b44 b65 b66 b68 b69 => GF b b1 (by omega) (by omega) (by omega) (by omega) (by omega) (by omega) b65 b66 b69) (fun k hk => ?_) ?_ (fun k hk => ?_) ?_ (fun j j4 j6 j7 hj => ?_) ?_ ?_ ?_ ?_
                · rw [GC 1 (by omega) (by omega) (by omega)]
                  show upd (gf 1) 8 0 k = _
                  rw [kx_upn hk, rf 1 (by omega) (by omega) (by omega) (by omega)]
                · rw [GC 1 (by omega) (by omega) (by omega)]; rfl
                · rw [eG, kv_up_ne (by omega), w4 k hk]
                  show gf 65 k = _
                  rw [rf 65 (by omega) (by omega) (by omega) (by omega)]
                · rw [eG]; rfl
                · rw [G66 j j4, w66 j, if_neg (by omega), FN j (by omega)]
                · rw [GF 6 (by omega) (by omega) (by omega) (by omega) (by omega) (by omega) (by omega) (by omega) (by omega) (by omega)]
                · rw [GC 9 (by omega) (by omega) (by omega)]; show gf 9 0 = _; rw [rf 9 (by omega) (by omega) (by omega) (by omega)]
                · refine kx_L_cg ?_ (fun j _ => ?_) ?_ (fun j hj => ?_) hR.2.2.1.2.2.2.2.2.2.1
                  · rw [GF 6 (by omega) (by omega) (by omega) (by omega) (by omega) (by omega) (by omega) (by omega) (by omega) (by omega)]
                  · rw [GF 7 (by omega) (by omega) (by omega) (by omega) (by omega) (by omega) (by omega) (by omega) (by omega) (by omega)]
                  · rw [G66 6 (by omega), w66 6, if_neg (by omega), FN 6 (by omega)]
                  · show G 66 (168 + j) = g 66 (168 + j)
                    rw [G66 _ (by omega), w66, if_neg (by omega), FN _ (by omega)]
                · refine kx_L_t1 (n := a1) (cd := cd) (tx := fun j => G 66 (218 + j)) n50 hb ?_ (fun j hj => ?_) ?_ ?_
                  · rw [GC 9 (by omega) (by omega) (by omega)]; show gf 49 2 = _; exact cl.1
                  · rw [GC 10 (by omega) (by omega) (by omega)]
                    show va_cpy (gf 50) (gf 10) 0 0 50 j = _
                    rw [kx_va (by have := (hb.2 rfl).2.1; omega)]; exact cl.2 j hj
                  · rw [G66 7 (by omega), w66 7, if_pos rfl]
                  · intro A B C
                    obtain ⟨v9, z1, z2⟩ := hm A B C
                    exact ⟨v9, z1, fun E d g9 w9 hs => z2 E d g9 w9 ⟨hs.1, hs.2.1, hs.2.2.1, fun j hj => (hs.2.2.2 j hj).trans (by show G 66 (218 + j) = g 66 (98 + j); rw [G66 _ (by omega), w66, if_neg (by omega)]; exact FM j (by omega))⟩⟩
        · exact absurd ha m6
      · refine kx_two (by decide) (Nat.le_of_ble_eq_true rfl) (by decide) (Nat.le_of_ble_eq_true rfl) ?_
        refine kx_st 0 (pc' := 0) (L' := [some (.ref 0), some (.int 1), none, none]) (st' := []) (h' := kv_wd g w) rfl ?_
        refine kx_st 3 (pc' := 5) (L' := [some (.ref 0), some (.int 1), none, none]) (st' := [.int 1, .ref 1]) (h' := kv_wd g w) rfl ?_
        refine kx_call (z := 18) (as := [.ref 1, .int 1]) (rest := []) (v := some (.ref 9)) (h1 := kv_wd g w) rfl (ev_lawAt_1 (d := 898)) ?_
        refine kx_st 0 (pc' := 8) (L' := [some (.ref 0), some (.int 1), none, none]) (st' := [.ref 9]) (h' := kv_wd g w) rfl ?_
        refine kx_st 2 (pc' := 10) (L' := [some (.ref 0), some (.int 1), some (.ref 9), none]) (st' := [.ref 9]) (h' := kv_wd g w) rfl ?_
        refine kx_st 1 (pc' := 19) (L' := [some (.ref 0), some (.int 1), some (.ref 9), none]) (st' := []) (h' := kv_wd g w) rfl ?_
        refine kx_st 9 (pc' := 38) (L' := [some (.ref 0), some (.int 1), some (.ref 9), none]) (st' := [.int 1, .int (g 1 8), .ref 12, .ref 48]) (h' := kv_wd g w) rfl ?_
        refine kx_call (z := 46) (as := [.ref 48, .ref 12, .int (g 1 8), .int 1]) (rest := []) (v := some (.int (nI a1))) (h1 := kv_wd gf w) rfl (by rw [show g 1 8 = nI n from t1]; have z := ef; rw [if_neg hgood] at z; exact z) ?_
        refine kx_st 0 (pc' := 41) (L' := [some (.ref 0), some (.int 1), some (.ref 9), none]) (st' := [.int (nI a1)]) (h' := kv_wd gf w) rfl ?_
        refine kx_st 4 (pc' := 47) (L' := [some (.ref 0), some (.int 1), some (.ref 9), some (.int (nI a1))]) (st' := [.int 0, .ref 1]) (h' := kv_wd gf w) rfl ?_
        refine kx_pf (i := 152) (k := 8) (x := 0) rfl rfl (by decide) rfl (Nat.le_of_ble_eq_true rfl) rfl rfl rfl ?_
        refine kx_st 1 (pc' := 51) (L' := [some (.ref 0), some (.int 1), some (.ref 9), some (.int (nI a1))]) (st' := [.int (nI a1)]) (h' := kv_wd (kv_up gf 1 8 0) w) rfl ?_
        refine kx_bc (t := 59) rfl rfl (fun (h51 : nI a1 < 0) => ?_) (fun (h51 : ¬ (nI a1 < 0)) => ?_)
        · exact absurd h51 (nI_pos (by omega))
        · refine kx_st 0 (pc' := 54) (L' := [some (.ref 0), some (.int 1), some (.ref 9), some (.int (nI a1))]) (st' := []) (h' := kv_wd (kv_up gf 1 8 0) w) rfl ?_
          refine kx_st 3 (pc' := 58) (L' := [some (.ref 0), some (.int 1), some (.ref 9), some (.int (nI a1))]) (st' := [.int ((-10) - (nI a1))]) (h' := kv_wd (kv_up gf 1 8 0) w) rfl ?_
          refine kx_ret (v := some (.int ((-10) - (nI a1)))) rfl ?_
          refine ⟨_, _, _, rfl, rfl, ?_⟩
          refine kx_st 0 (pc' := 0) (L' := [some (.ref 65), some (.int 1), none, none, none]) (st' := []) (h' := kv_wd (kv_up gf 1 8 0) w) rfl ?_
          refine kx_st 3 (pc' := 3) (L' := [some (.ref 65), some (.int 1), none, none, none]) (st' := [.int 1, .int 0, .int 1]) (h' := kv_wd (kv_up gf 1 8 0) w) rfl ?_
          refine kx_call (z := 130) (as := [.int 1, .int 0, .int 1]) (rest := []) (v := some (.int (kx_b (0 ≤ (1 : Int32) ∧ (1 : Int32) ≤ 1)))) (h1 := kv_wd (kv_up gf 1 8 0) w) rfl (ev_in (d := 898) 1 0 1) ?_
          refine kx_st 0 (pc' := 6) (L' := [some (.ref 65), some (.int 1), none, none, none]) (st' := [.int (kx_b (0 ≤ (1 : Int32) ∧ (1 : Int32) ≤ 1))]) (h' := kv_wd (kv_up gf 1 8 0) w) rfl ?_
          refine kx_bn (t := 16) rfl rfl (fun (m6 : (0 ≤ (1 : Int32) ∧ (1 : Int32) ≤ 1)) => ?_) (fun (m6 : ¬ (0 ≤ (1 : Int32) ∧ (1 : Int32) ≤ 1)) => ?_)
          · refine kx_st 5 (pc' := 25) (L' := [some (.ref 65), some (.int 1), none, none, none]) (st' := [.ref 69, .ref 66, .ref 65]) (h' := kv_wd (kv_up gf 1 8 0) w) rfl ?_
            refine kx_call (z := 133) (as := [.ref 65, .ref 66, .ref 69]) (rest := []) (v := none) (h1 := kv_wd (kv_uf (kv_up gf 1 8 0) 69 (kx_mv ((kv_up gf 1 8 0) 66) ((kv_up gf 1 8 0) 69) 268)) w) rfl (ev_moveAll (d := 898) (a := 66) (b := 69) rfl rfl (by decide) (by decide) (by decide)) ?_
            refine kx_st 0 (pc' := 28) (L' := [some (.ref 65), some (.int 1), none, none, none]) (st' := []) (h' := kv_wd (kv_uf (kv_up gf 1 8 0) 69 (kx_mv ((kv_up gf 1 8 0) 66) ((kv_up gf 1 8 0) 69) 268)) w) rfl ?_
            refine kx_st 2 (pc' := 30) (L' := [some (.ref 65), some (.int 1), some (.int 0), none, none]) (st' := []) (h' := kv_wd (kv_uf (kv_up gf 1 8 0) 69 (kx_mv ((kv_up gf 1 8 0) 66) ((kv_up gf 1 8 0) 69) 268)) w) rfl ?_
            have h0 := lp_tape1 (E := E) (d := 899) (g := kv_uf (kv_up gf 1 8 0) 69 (kx_mv ((kv_up gf 1 8 0) 66) ((kv_up gf 1 8 0) 69) 268)) (w := w) (P := fun v' h' => v' = some (.int (-10 - nI a1)) ∧ ∃ g2 w2, h' = kv_wd g2 w2 ∧ kx_Rl kx_L g2 w2 (i + 1)) ?_ 50 0 (by omega)
            · rw [kx_fd_0, kv_uf_id] at h0
              exact h0
            · skip
              refine kx_st 0 (pc' := 66) (L' := [some (.ref 65), some (.int 1), some (.int (nI 50)), none, none]) (st' := []) (h' := kv_wd (kv_uf (kv_uf (kv_up gf 1 8 0) 69 (kx_mv ((kv_up gf 1 8 0) 66) ((kv_up gf 1 8 0) 69) 268)) 66 (kx_fd ((kv_uf (kv_up gf 1 8 0) 69 (kx_mv ((kv_up gf 1 8 0) 66) ((kv_up gf 1 8 0) 69) 268)) 66) 218 (fun j => (kv_uf (kv_up gf 1 8 0) 69 (kx_mv ((kv_up gf 1 8 0) 66) ((kv_up gf 1 8 0) 69) 268)) 66 (98 + j)) 50)) w) rfl ?_
              refine kx_st 8 (pc' := 79) (L' := [some (.ref 65), some (.int 1), some (.int (nI 50)), none, none]) (st' := [.int 4, .ref 66, .int 7, .ref 66]) (h' := kv_wd (kv_uf (kv_uf (kv_up gf 1 8 0) 69 (kx_mv ((kv_up gf 1 8 0) 66) ((kv_up gf 1 8 0) 69) 268)) 66 (kx_fd ((kv_uf (kv_up gf 1 8 0) 69 (kx_mv ((kv_up gf 1 8 0) 66) ((kv_up gf 1 8 0) 69) 268)) 66) 218 (fun j => (kv_uf (kv_up gf 1 8 0) 69 (kx_mv ((kv_up gf 1 8 0) 66) ((kv_up gf 1 8 0) 69) 268)) 66 (98 + j)) 50)) w) rfl ?_
              refine kx_ia (k := 4) rfl rfl (by decide) rfl (by decide) (by decide) ?_
              refine kx_is (k := 7) rfl rfl (by decide) rfl (by decide) (by decide) ?_
              refine kx_st 5 (pc' := 86) (L' := [some (.ref 65), some (.int 1), some (.int (nI 50)), none, none]) (st' := [.int 1, .int 1, .int 1, .int 1, .ref 65]) (h' := kv_wd (kv_up (kv_uf (kv_uf (kv_up gf 1 8 0) 69 (kx_mv ((kv_up gf 1 8 0) 66) ((kv_up gf 1 8 0) 69) 268)) 66 (kx_fd ((kv_uf (kv_up gf 1 8 0) 69 (kx_mv ((kv_up gf 1 8 0) 66) ((kv_up gf 1 8 0) 69) 268)) 66) 218 (fun j => (kv_uf (kv_up gf 1 8 0) 69 (kx_mv ((kv_up gf 1 8 0) 66) ((kv_up gf 1 8 0) 69) 268)) 66 (98 + j)) 50)) 66 7 ((kv_uf (kv_uf (kv_up gf 1 8 0) 69 (kx_mv ((kv_up gf 1 8 0) 66) ((kv_up gf 1 8 0) 69) 268)) 66 (kx_fd ((kv_uf (kv_up gf 1 8 0) 69 (kx_mv ((kv_up gf 1 8 0) 66) ((kv_up gf 1 8 0) 69) 268)) 66) 218 (fun j => (kv_uf (kv_up gf 1 8 0) 69 (kx_mv ((kv_up gf 1 8 0) 66) ((kv_up gf 1 8 0) 69) 268)) 66 (98 + j)) 50)) 66 4)) w) rfl ?_
              have H4 : ∀ j, (kv_up (kv_uf (kv_uf (kv_up gf 1 8 0) 69 (kx_mv ((kv_up gf 1 8 0) 66) ((kv_up gf 1 8 0) 69) 268)) 66 (kx_fd ((kv_uf (kv_up gf 1 8 0) 69 (kx_mv ((kv_up gf 1 8 0) 66) ((kv_up gf 1 8 0) 69) 268)) 66) 218 (fun j => (kv_uf (kv_up gf 1 8 0) 69 (kx_mv ((kv_up gf 1 8 0) 66) ((kv_up gf 1 8 0) 69) 268)) 66 (98 + j)) 50)) 66 7 ((kv_uf (kv_uf (kv_up gf 1 8 0) 69 (kx_mv ((kv_up gf 1 8 0) 66) ((kv_up gf 1 8 0) 69) 268)) 66 (kx_fd ((kv_uf (kv_up gf 1 8 0) 69 (kx_mv ((kv_up gf 1 8 0) 66) ((kv_up gf 1 8 0) 69) 268)) 66) 218 (fun j => (kv_uf (kv_up gf 1 8 0) 69 (kx_mv ((kv_up gf 1 8 0) 66) ((kv_up gf 1 8 0) 69) 268)) 66 (98 + j)) 50)) 66 4)) 66 j = if j = 7 then nI n else kx_fd (gf 66) 218 (fun j => gf 66 (98 + j)) 50 j := fun j => by
                show upd (kx_fd (gf 66) 218 (fun j => gf 66 (98 + j)) 50) 7 (kx_fd (gf 66) 218 (fun j => gf 66 (98 + j)) 50 4) j = _
                rw [FN 4 (by omega), show g 66 4 = nI n from t2]
                rfl
              obtain ⟨g86, e86, w1, w2, w3, w4⟩ := ev_walks1 (E := E) (d := 858) (g := kv_up (kv_uf (kv_uf (kv_up gf 1 8 0) 69 (kx_mv ((kv_up gf 1 8 0) 66) ((kv_up gf 1 8 0) 69) 268)) 66 (kx_fd ((kv_uf (kv_up gf 1 8 0) 69 (kx_mv ((kv_up gf 1 8 0) 66) ((kv_up gf 1 8 0) 69) 268)) 66) 218 (fun j => (kv_uf (kv_up gf 1 8 0) 69 (kx_mv ((kv_up gf 1 8 0) 66) ((kv_up gf 1 8 0) 69) 268)) 66 (98 + j)) 50)) 66 7 ((kv_uf (kv_uf (kv_up gf 1 8 0) 69 (kx_mv ((kv_up gf 1 8 0) 66) ((kv_up gf 1 8 0) 69) 268)) 66 (kx_fd ((kv_uf (kv_up gf 1 8 0) 69 (kx_mv ((kv_up gf 1 8 0) 66) ((kv_up gf 1 8 0) 69) 268)) 66) 218 (fun j => (kv_uf (kv_up gf 1 8 0) 69 (kx_mv ((kv_up gf 1 8 0) 66) ((kv_up gf 1 8 0) 69) 268)) 66 (98 + j)) 50)) 66 4)) (w := w) (tx := (fun j => g 66 (98 + j))) (A := 1) (B := 1) (C := 1) n50 ha1 hv2 (by rw [H4, if_pos rfl]) (fun j hj => by rw [show 168 + 50 * 1 + j = 218 + j by omega, H4, if_neg (by omega)]; exact FM j (by omega))
              have w66 : ∀ j, g86 66 j = if j = 7 then nI n else kx_fd (gf 66) 218 (fun j => gf 66 (98 + j)) 50 j := fun j => by rw [w1 66 (by omega)]; exact H4 j
              refine kx_call (z := 166) (as := [.ref 65, .int 1, .int 1, .int 1, .int 1]) (rest := []) (v := some (.int v)) (h1 := kv_wd g86 w) rfl (kx_ev_le (by omega) e86) ?_
              refine kx_st 0 (pc' := 89) (L' := [some (.ref 65), some (.int 1), some (.int (nI 50)), none, none]) (st' := [.int v]) (h' := kv_wd g86 w) rfl ?_
              refine kx_st 3 (pc' := 94) (L' := [some (.ref 65), some (.int 1), some (.int v), none, none]) (st' := [.int (g86 65 14)]) (h' := kv_wd g86 w) rfl ?_
              refine kx_bc (t := 106) rfl rfl (fun (m94 : g86 65 14 = 0) => ?_) (fun (m94 : ¬ (g86 65 14 = 0)) => ?_)
              · refine kx_st 6 (pc' := 115) (L' := [some (.ref 65), some (.int 1), some (.int v), some (.int 0), some (.int (g86 65 8))]) (st' := [.int 0]) (h' := kv_wd g86 w) rfl ?_
                refine kx_st 1 (pc' := 118) (L' := [some (.ref 65), some (.int 1), some (.int v), some (.int 0), some (.int (g86 65 8))]) (st' := []) (h' := kv_wd g86 w) rfl ?_
                refine kx_st 5 (pc' := 127) (L' := [some (.ref 65), some (.int 1), some (.int v), some (.int 0), some (.int (g86 65 8))]) (st' := [.ref 66, .ref 69, .ref 65]) (h' := kv_wd g86 w) rfl ?_
                refine kx_call (z := 133) (as := [.ref 65, .ref 69, .ref 66]) (rest := []) (v := none) (h1 := kv_wd (kv_uf g86 66 (kx_mv (g86 69) (g86 66) 268)) w) rfl (ev_moveAll (d := 898) (a := 69) (b := 66) rfl rfl (by decide) (by decide) (by decide)) ?_
                refine kx_st 0 (pc' := 130) (L' := [some (.ref 65), some (.int 1), some (.int v), some (.int 0), some (.int (g86 65 8))]) (st' := []) (h' := kv_wd (kv_uf g86 66 (kx_mv (g86 69) (g86 66) 268)) w) rfl ?_
                refine kx_st 4 (pc' := 136) (L' := [some (.ref 65), some (.int 1), some (.int v), some (.int 0), some (.int (g86 65 8))]) (st' := [.int 0, .int 4, .ref 66]) (h' := kv_wd (kv_uf g86 66 (kx_mv (g86 69) (g86 66) 268)) w) rfl ?_
                refine kx_is (k := 4) rfl rfl (by decide) rfl (by decide) (by decide) ?_
                refine kx_st 1 (pc' := 138) (L' := [some (.ref 65), some (.int 1), some (.int v), some (.int 0), some (.int (g86 65 8))]) (st' := [.int 0]) (h' := kv_wd (kv_up (kv_uf g86 66 (kx_mv (g86 69) (g86 66) 268)) 66 4 0) w) rfl ?_
                refine kx_st 1 (pc' := 145) (L' := [some (.ref 65), some (.int 1), some (.int v), some (.int 0), some (.int (g86 65 8))]) (st' := []) (h' := kv_wd (kv_up (kv_uf g86 66 (kx_mv (g86 69) (g86 66) 268)) 66 4 0) w) rfl ?_
                refine kx_st 3 (pc' := 150) (L' := [some (.ref 65), some (.int 1), some (.int v), some (.int 0), some (.int (g86 65 8))]) (st' := [.int ((-10) - (g86 65 8))]) (h' := kv_wd (kv_up (kv_uf g86 66 (kx_mv (g86 69) (g86 66) 268)) 66 4 0) w) rfl ?_
                refine kx_ret (v := some (.int ((-10) - (g86 65 8)))) rfl ?_
                obtain ⟨G, eG⟩ : ∃ G : kv_S, G = kv_up (kv_uf g86 66 (kx_mv (g86 69) (g86 66) 268)) 66 4 0 := ⟨_, rfl⟩
                refine ⟨?_, _, w, rfl, ?_⟩
                · show some (Value.int (-10 - g86 65 8)) = _
                  rw [w2]
                rw [← eG]
                have g69 : ∀ j, j < 268 → g86 69 j = g 66 j := fun j hj => by rw [w1 69 (by omega)]; show kx_mv (gf 66) (gf 69) 268 j = _; rw [kx_mvl hj, rf 66 (by omega) (by omega) (by omega) (by omega)]
                have G66 : ∀ j, j < 268 → j ≠ 4 → G 66 j = g 66 j := fun j hj j4 => by rw [eG, kv_up_at, kx_upn j4, kv_uf_self, kx_mvl hj]; exact g69 j hj
                have GC : ∀ b, b ≠ 65 → b ≠ 66 → b ≠ 69 → G b = (kv_up gf 1 8 0) b := fun b b1 b2 b3 => by rw [eG, kv_up_ne b2, kv_uf_ne b2, w1 b b1, kv_up_ne b2, kv_uf_ne b2, kv_uf_ne b3]
                have GF : ∀ b, b ≠ 1 → b ≠ 48 → b ≠ 49 → b ≠ 50 → b ≠ 52 → b ≠ 65 → b ≠ 66 → b ≠ 69 → G b = g b := fun b b1 b4 b5 b6 b7 b8 b9 b10 => by rw [GC b b8 b9 b10, kv_up_ne b1, rf b b4 b5 b6 b7]
                have gf8 : ∀ b, b = 6 ∨ b = 7 ∨ b = 9 ∨ b = 10 → G b = g b := fun b hb => GF b (by omega) (by omega) (by omega) (by omega) (by omega) (by omega) (by omega) (by omega)
                refine kx_Rl_text hR (fun b b1 b6 b7 b8 b9 b10 b11 b44 b65 b66 b68 b69 => GF b b1 (by omega) (by omega) (by omega) (by omega) b65 b66 b69) (fun k hk => ?_) ?_ (fun k hk => ?_) ?_ (fun j j4 j6 j7 hj => G66 j (by omega) j4) ?_ ?_ ?_ ?_
                · rw [GC 1 (by omega) (by omega) (by omega)]
                  show upd (gf 1) 8 0 k = _
                  rw [kx_upn hk, rf 1 (by omega) (by omega) (by omega) (by omega)]
                · rw [GC 1 (by omega) (by omega) (by omega)]; rfl
                · rw [eG, kv_up_ne (by omega), kv_uf_ne (by omega), w4 k hk]
                  show gf 65 k = _
                  rw [rf 65 (by omega) (by omega) (by omega) (by omega)]
                · rw [eG]; rfl
                · rw [gf8 6 (by omega)]
                · rw [gf8 9 (by omega)]
                · rw [gf8 6 (by omega), gf8 7 (by omega)]; exact kx_L_cg rfl (fun _ _ => rfl) (G66 6 (by omega) (by omega)) (fun j hj => G66 _ (by omega) (by omega)) hR.2.2.1.2.2.2.2.2.2.1
                · rw [gf8 9 (by omega), gf8 10 (by omega)]; exact kx_L_cg rfl (fun _ _ => rfl) (G66 7 (by omega) (by omega)) (fun j hj => G66 _ (by omega) (by omega)) hR.2.2.1.2.2.2.2.2.2.2
              · exact absurd (show g86 65 14 = 0 by rw [w3, if_neg hgood]) m94
          · exact absurd ha m6
  · refine kx_two (by decide) (Nat.le_of_ble_eq_true rfl) (by decide) (Nat.le_of_ble_eq_true rfl) ?_
    refine kx_st 0 (pc' := 0) (L' := [some (.ref 0), some (.int a), none, none]) (st' := []) (h' := kv_wd g w) rfl ?_
    refine kx_st 3 (pc' := 5) (L' := [some (.ref 0), some (.int a), none, none]) (st' := [.int a, .ref 1]) (h' := kv_wd g w) rfl ?_
    refine kx_call (z := 18) (as := [.ref 1, .int a]) (rest := []) (v := some (.null)) (h1 := kv_wd g w) rfl (ev_lawAt_n (d := 898) a (fun z => ha (by rw [z]; decide)) (fun z => ha (by rw [z]; decide))) ?_
    refine kx_st 0 (pc' := 8) (L' := [some (.ref 0), some (.int a), none, none]) (st' := [.null]) (h' := kv_wd g w) rfl ?_
    refine kx_st 2 (pc' := 10) (L' := [some (.ref 0), some (.int a), some (.null), none]) (st' := [.null]) (h' := kv_wd g w) rfl ?_
    refine kx_st 1 (pc' := 13) (L' := [some (.ref 0), some (.int a), some (.null), none]) (st' := []) (h' := kv_wd g w) rfl ?_
    refine kx_st 2 (pc' := 15) (L' := [some (.ref 0), some (.int a), some (.null), none]) (st' := [.int 1, .ref 0]) (h' := kv_wd g w) rfl ?_
    refine kx_call (z := 123) (as := [.ref 0, .int 1]) (rest := []) (v := some (.int (-1000000000 - nI 1))) (h1 := kv_wd (kv_up g 64 1 (g 64 1 + 1)) w) rfl (ev_error (d := 898) 1 (by decide) (by decide)) ?_
    refine kx_st 0 (pc' := 18) (L' := [some (.ref 0), some (.int a), some (.null), none]) (st' := [.int (-1000000000 - nI 1)]) (h' := kv_wd (kv_up g 64 1 (g 64 1 + 1)) w) rfl ?_
    refine kx_ret (v := some (.int (-1000000000 - nI 1))) rfl ?_
    refine ⟨_, _, _, rfl, rfl, ?_⟩
    refine kx_st 0 (pc' := 0) (L' := [some (.ref 65), some (.int a), none, none, none]) (st' := []) (h' := kv_wd (kv_up g 64 1 (g 64 1 + 1)) w) rfl ?_
    refine kx_st 3 (pc' := 3) (L' := [some (.ref 65), some (.int a), none, none, none]) (st' := [.int 1, .int 0, .int a]) (h' := kv_wd (kv_up g 64 1 (g 64 1 + 1)) w) rfl ?_
    refine kx_call (z := 130) (as := [.int a, .int 0, .int 1]) (rest := []) (v := some (.int (kx_b (0 ≤ a ∧ a ≤ 1)))) (h1 := kv_wd (kv_up g 64 1 (g 64 1 + 1)) w) rfl (ev_in (d := 898) a 0 1) ?_
    refine kx_st 0 (pc' := 6) (L' := [some (.ref 65), some (.int a), none, none, none]) (st' := [.int (kx_b (0 ≤ a ∧ a ≤ 1))]) (h' := kv_wd (kv_up g 64 1 (g 64 1 + 1)) w) rfl ?_
    refine kx_bn (t := 16) rfl rfl (fun (m6 : (0 ≤ a ∧ a ≤ 1)) => ?_) (fun (m6 : ¬ (0 ≤ a ∧ a ≤ 1)) => ?_)
    · exact absurd m6 ha
    · refine kx_st 0 (pc' := 9) (L' := [some (.ref 65), some (.int a), none, none, none]) (st' := []) (h' := kv_wd (kv_up g 64 1 (g 64 1 + 1)) w) rfl ?_
      refine kx_st 2 (pc' := 12) (L' := [some (.ref 65), some (.int a), none, none, none]) (st' := [.int (-1000000001), .ref 65]) (h' := kv_wd (kv_up g 64 1 (g 64 1 + 1)) w) rfl ?_
      refine kx_call (z := 131) (as := [.ref 65, .int (-1000000001)]) (rest := []) (v := some (.int (-1000000001))) (h1 := kv_wd (kv_up (kv_up g 64 1 (g 64 1 + 1)) 70 1 ((kv_up g 64 1 (g 64 1 + 1)) 70 1 + 1)) w) rfl (ev_errs (d := 898) (-1000000001) 1 (by decide) (by decide)) ?_
      refine kx_st 0 (pc' := 15) (L' := [some (.ref 65), some (.int a), none, none, none]) (st' := [.int (-1000000001)]) (h' := kv_wd (kv_up (kv_up g 64 1 (g 64 1 + 1)) 70 1 ((kv_up g 64 1 (g 64 1 + 1)) 70 1 + 1)) w) rfl ?_
      refine kx_ret (v := some (.int (-1000000001))) rfl ?_
      exact ⟨rfl, _, _, rfl, kx_Rl_e hR⟩
