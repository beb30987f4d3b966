/-! PAIRS: law, then, years -/
set_option maxRecDepth 100000 in
theorem ev_lawAt_0 {E : kv_V} {d : Nat} {g : kv_S} {w : kv_W}  : kv_ev E (d + 1) 18 [.ref 1, .int 0] (kv_wd g w) (some (.ref 6)) (kv_wd g w) := by
  refine kx_ev (d := d + 0) (by decide) (Nat.le_of_ble_eq_true rfl) ?_
  refine kx_st 0 (pc' := 0) (L' := [some (.ref 1), some (.int 0)]) (st' := []) (h' := kv_wd g w) rfl ?_
  refine kx_st 1 (pc' := 1) (L' := [some (.ref 1), some (.int 0)]) (st' := [.int 0]) (h' := kv_wd g w) rfl ?_
  refine kx_st 1 (pc' := 4) (L' := [some (.ref 1), some (.int 0)]) (st' := []) (h' := kv_wd g w) rfl ?_
  refine kx_st 2 (pc' := 8) (L' := [some (.ref 1), some (.int 0)]) (st' := [.ref 6]) (h' := kv_wd g w) rfl ?_
  refine kx_ret (v := some (.ref 6)) rfl ?_
  exact ⟨rfl, rfl⟩
set_option maxRecDepth 100000 in
theorem ev_lawAt_1 {E : kv_V} {d : Nat} {g : kv_S} {w : kv_W}  : kv_ev E (d + 1) 18 [.ref 1, .int 1] (kv_wd g w) (some (.ref 9)) (kv_wd g w) := by
  refine kx_ev (d := d + 0) (by decide) (Nat.le_of_ble_eq_true rfl) ?_
  refine kx_st 0 (pc' := 0) (L' := [some (.ref 1), some (.int 1)]) (st' := []) (h' := kv_wd g w) rfl ?_
  refine kx_st 1 (pc' := 1) (L' := [some (.ref 1), some (.int 1)]) (st' := [.int 1]) (h' := kv_wd g w) rfl ?_
  refine kx_st 1 (pc' := 9) (L' := [some (.ref 1), some (.int 1)]) (st' := []) (h' := kv_wd g w) rfl ?_
  refine kx_st 2 (pc' := 11) (L' := [some (.ref 1), some (.int 1)]) (st' := [.int 1, .int 1]) (h' := kv_wd g w) rfl ?_
  refine kx_st 1 (pc' := 14) (L' := [some (.ref 1), some (.int 1)]) (st' := []) (h' := kv_wd g w) rfl ?_
  refine kx_st 3 (pc' := 22) (L' := [some (.ref 1), some (.int 1)]) (st' := [.ref 9]) (h' := kv_wd g w) rfl ?_
  refine kx_ret (v := some (.ref 9)) rfl ?_
  exact ⟨rfl, rfl⟩
set_option maxRecDepth 100000 in
theorem ev_lawAt_n {E : kv_V} {d : Nat} {g : kv_S} {w : kv_W} (v : Int32) (h0 : ¬ v = 0) (h1 : ¬ v = 1) : kv_ev E (d + 1) 18 [.ref 1, .int v] (kv_wd g w) (some (.null)) (kv_wd g w) := by
  refine kx_ev (d := d + 0) (by decide) (Nat.le_of_ble_eq_true rfl) ?_
  refine kx_st 0 (pc' := 0) (L' := [some (.ref 1), some (.int v)]) (st' := []) (h' := kv_wd g w) rfl ?_
  refine kx_st 1 (pc' := 1) (L' := [some (.ref 1), some (.int v)]) (st' := [.int v]) (h' := kv_wd g w) rfl ?_
  refine kx_bc (t := 9) rfl rfl (fun (z1 : ¬ v = 0) => ?_) (fun (z1 : ¬ (¬ v = 0)) => ?_)
  · refine kx_st 2 (pc' := 11) (L' := [some (.ref 1), some (.int v)]) (st' := [.int 1, .int v]) (h' := kv_wd g w) rfl ?_
    refine kx_bi (t := 21) rfl rfl (fun (z11 : ¬ v = 1) => ?_) (fun (z11 : ¬ (¬ v = 1)) => ?_)
    · refine kx_st 1 (pc' := 22) (L' := [some (.ref 1), some (.int v)]) (st' := [.null]) (h' := kv_wd g w) rfl ?_
      refine kx_ret (v := some (.null)) rfl ?_
      exact ⟨rfl, rfl⟩
    · exact absurd (Classical.not_not.mp z11) h1
  · exact absurd (Classical.not_not.mp z1) h0
set_option maxRecDepth 100000 in
theorem pr_law {E : kv_V} (a b c e : Int32) : kx_ok2 E (kx_Rl kx_L) 92 168 [.int a, .int b, .int c, .int e] := by
  intro g w i hR hi
  obtain ⟨F0, F1, s, t, m, hF0, hF1, hX, hM, hKB⟩ := kx_Rl_XM hR
  obtain ⟨q0, hq0, hm0, hb0, hy0⟩ := kx_Rl_q hR
  have q := hR.1
  have b1 := hX.2.1.1
  have b2 := hM.2.1.1
  have a1 := hX.1.1
  have a2 := hX.1.2.1
  have a4 := hX.1.2.2.2
  have d1 := hX.2.1.2.2
  have d2 := hM.2.1.2
  by_cases ha : 0 ≤ a ∧ a ≤ 1
  · rcases kx_b1 ha with rfl | rfl
    · refine kx_two (by decide) (Nat.le_of_ble_eq_true rfl) (by decide) (Nat.le_of_ble_eq_true rfl) ?_
      refine kx_st 0 (pc' := 0) (L' := [some (.ref 0), some (.int 0), some (.int b), some (.int c), some (.int e), none]) (st' := []) (h' := kv_wd g w) rfl ?_
      refine kx_st 3 (pc' := 5) (L' := [some (.ref 0), some (.int 0), some (.int b), some (.int c), some (.int e), none]) (st' := [.int 0, .ref 1]) (h' := kv_wd g w) rfl ?_
      refine kx_call (z := 18) (as := [.ref 1, .int 0]) (rest := []) (v := some (.ref 6)) (h1 := kv_wd g w) rfl (ev_lawAt_0 (d := 898)) ?_
      refine kx_st 0 (pc' := 8) (L' := [some (.ref 0), some (.int 0), some (.int b), some (.int c), some (.int e), none]) (st' := [.ref 6]) (h' := kv_wd g w) rfl ?_
      refine kx_st 2 (pc' := 12) (L' := [some (.ref 0), some (.int 0), some (.int b), some (.int c), some (.int e), some (.ref 6)]) (st' := [.ref 6]) (h' := kv_wd g w) rfl ?_
      refine kx_st 1 (pc' := 21) (L' := [some (.ref 0), some (.int 0), some (.int b), some (.int c), some (.int e), some (.ref 6)]) (st' := []) (h' := kv_wd g w) rfl ?_
      refine kx_st 4 (pc' := 27) (L' := [some (.ref 0), some (.int 0), some (.int b), some (.int c), some (.int e), some (.ref 6)]) (st' := [.int e, .int c, .int b, .ref 6]) (h' := kv_wd g w) rfl ?_
      obtain ⟨f27, e27⟩ := ev_giv0 (E := E) (d := 894) (w := w) hX b c e
      refine kx_call (z := 39) (as := [.ref 6, .int b, .int c, .int e]) (rest := []) (v := some (.int (F0 b c e))) (h1 := kv_wd (kv_uf g 8 f27) w) rfl e27 ?_
      refine kx_st 0 (pc' := 30) (L' := [some (.ref 0), some (.int 0), some (.int b), some (.int c), some (.int e), some (.ref 6)]) (st' := [.int (F0 b c e)]) (h' := kv_wd (kv_uf g 8 f27) w) rfl ?_
      refine kx_ret (v := some (.int (F0 b c e))) rfl ?_
      refine ⟨_, _, _, rfl, rfl, ?_⟩
      refine kx_st 0 (pc' := 0) (L' := [some (.ref 65), some (.int 0), some (.int b), some (.int c), some (.int e)]) (st' := []) (h' := kv_wd (kv_uf g 8 f27) w) rfl ?_
      refine kx_st 3 (pc' := 3) (L' := [some (.ref 65), some (.int 0), some (.int b), some (.int c), some (.int e)]) (st' := [.int 1, .int 0, .int 0]) (h' := kv_wd (kv_uf g 8 f27) w) rfl ?_
      refine kx_call (z := 130) (as := [.int 0, .int 0, .int 1]) (rest := []) (v := some (.int (kx_b (0 ≤ (0 : Int32) ∧ (0 : Int32) ≤ 1)))) (h1 := kv_wd (kv_uf g 8 f27) w) rfl (ev_in (d := 898) 0 0 1) ?_
      refine kx_st 0 (pc' := 6) (L' := [some (.ref 65), some (.int 0), some (.int b), some (.int c), some (.int e)]) (st' := [.int (kx_b (0 ≤ (0 : Int32) ∧ (0 : Int32) ≤ 1))]) (h' := kv_wd (kv_uf g 8 f27) w) rfl ?_
      refine kx_be (t := 21) rfl rfl (fun (m6 : ¬ (0 ≤ (0 : Int32) ∧ (0 : Int32) ≤ 1)) => ?_) (fun (m6 : (0 ≤ (0 : Int32) ∧ (0 : Int32) ≤ 1)) => ?_)
      · exact absurd ha m6
      · refine kx_st 0 (pc' := 9) (L' := [some (.ref 65), some (.int 0), some (.int b), some (.int c), some (.int e)]) (st' := []) (h' := kv_wd (kv_uf g 8 f27) w) rfl ?_
        refine kx_st 5 (pc' := 15) (L' := [some (.ref 65), some (.int 0), some (.int b), some (.int c), some (.int e)]) (st' := [.int e, .int c, .int b, .int 0, .ref 65]) (h' := kv_wd (kv_uf g 8 f27) w) rfl ?_
        obtain ⟨f15, k15, e15⟩ := ev_lawOf0 (E := E) (d := 799) (g := kv_uf g 8 f27) (w := w) hM b c e
        refine kx_call (z := 167) (as := [.ref 65, .int 0, .int b, .int c, .int e]) (rest := []) (v := some (.int (F0 b c e))) (h1 := kv_wd (kv_uf (kv_uf g 8 f27) 65 f15) w) rfl e15 ?_
        refine kx_st 0 (pc' := 18) (L' := [some (.ref 65), some (.int 0), some (.int b), some (.int c), some (.int e)]) (st' := [.int (F0 b c e)]) (h' := kv_wd (kv_uf (kv_uf g 8 f27) 65 f15) w) rfl ?_
        refine kx_st 1 (pc' := 27) (L' := [some (.ref 65), some (.int 0), some (.int b), some (.int c), some (.int e)]) (st' := [.int (F0 b c e)]) (h' := kv_wd (kv_uf (kv_uf g 8 f27) 65 f15) w) rfl ?_
        refine kx_ret (v := some (.int (F0 b c e))) rfl ?_
        exact ⟨rfl, _, _, rfl, kx_Rl_skip _ _ _ _ (kx_Rl_ro hR rfl (fun b h8 h11 h4 h65 h66 h68 h69 => (by rw [kv_uf_ne h65, kv_uf_ne h8])) k15 (fun _ _ => rfl))⟩
    · refine kx_two (by decide) (Nat.le_of_ble_eq_true rfl) (by decide) (Nat.le_of_ble_eq_true rfl) ?_
      refine kx_st 0 (pc' := 0) (L' := [some (.ref 0), some (.int 1), some (.int b), some (.int c), some (.int e), none]) (st' := []) (h' := kv_wd g w) rfl ?_
      refine kx_st 3 (pc' := 5) (L' := [some (.ref 0), some (.int 1), some (.int b), some (.int c), some (.int e), none]) (st' := [.int 1, .ref 1]) (h' := kv_wd g w) rfl ?_
      refine kx_call (z := 18) (as := [.ref 1, .int 1]) (rest := []) (v := some (.ref 9)) (h1 := kv_wd g w) rfl (ev_lawAt_1 (d := 898)) ?_
      refine kx_st 0 (pc' := 8) (L' := [some (.ref 0), some (.int 1), some (.int b), some (.int c), some (.int e), none]) (st' := [.ref 9]) (h' := kv_wd g w) rfl ?_
      refine kx_st 2 (pc' := 12) (L' := [some (.ref 0), some (.int 1), some (.int b), some (.int c), some (.int e), some (.ref 9)]) (st' := [.ref 9]) (h' := kv_wd g w) rfl ?_
      refine kx_st 1 (pc' := 21) (L' := [some (.ref 0), some (.int 1), some (.int b), some (.int c), some (.int e), some (.ref 9)]) (st' := []) (h' := kv_wd g w) rfl ?_
      refine kx_st 4 (pc' := 27) (L' := [some (.ref 0), some (.int 1), some (.int b), some (.int c), some (.int e), some (.ref 9)]) (st' := [.int e, .int c, .int b, .ref 9]) (h' := kv_wd g w) rfl ?_
      obtain ⟨f27, e27⟩ := ev_giv1 (E := E) (d := 894) (w := w) hX b c e
      refine kx_call (z := 39) (as := [.ref 9, .int b, .int c, .int e]) (rest := []) (v := some (.int (F1 b c e))) (h1 := kv_wd (kv_uf g 11 f27) w) rfl e27 ?_
      refine kx_st 0 (pc' := 30) (L' := [some (.ref 0), some (.int 1), some (.int b), some (.int c), some (.int e), some (.ref 9)]) (st' := [.int (F1 b c e)]) (h' := kv_wd (kv_uf g 11 f27) w) rfl ?_
      refine kx_ret (v := some (.int (F1 b c e))) rfl ?_
      refine ⟨_, _, _, rfl, rfl, ?_⟩
      refine kx_st 0 (pc' := 0) (L' := [some (.ref 65), some (.int 1), some (.int b), some (.int c), some (.int e)]) (st' := []) (h' := kv_wd (kv_uf g 11 f27) w) rfl ?_
      refine kx_st 3 (pc' := 3) (L' := [some (.ref 65), some (.int 1), some (.int b), some (.int c), some (.int e)]) (st' := [.int 1, .int 0, .int 1]) (h' := kv_wd (kv_uf g 11 f27) w) rfl ?_
      refine kx_call (z := 130) (as := [.int 1, .int 0, .int 1]) (rest := []) (v := some (.int (kx_b (0 ≤ (1 : Int32) ∧ (1 : Int32) ≤ 1)))) (h1 := kv_wd (kv_uf g 11 f27) w) rfl (ev_in (d := 898) 1 0 1) ?_
      refine kx_st 0 (pc' := 6) (L' := [some (.ref 65), some (.int 1), some (.int b), some (.int c), some (.int e)]) (st' := [.int (kx_b (0 ≤ (1 : Int32) ∧ (1 : Int32) ≤ 1))]) (h' := kv_wd (kv_uf g 11 f27) w) rfl ?_
      refine kx_be (t := 21) rfl rfl (fun (m6 : ¬ (0 ≤ (1 : Int32) ∧ (1 : Int32) ≤ 1)) => ?_) (fun (m6 : (0 ≤ (1 : Int32) ∧ (1 : Int32) ≤ 1)) => ?_)
      · exact absurd ha m6
      · refine kx_st 0 (pc' := 9) (L' := [some (.ref 65), some (.int 1), some (.int b), some (.int c), some (.int e)]) (st' := []) (h' := kv_wd (kv_uf g 11 f27) w) rfl ?_
        refine kx_st 5 (pc' := 15) (L' := [some (.ref 65), some (.int 1), some (.int b), some (.int c), some (.int e)]) (st' := [.int e, .int c, .int b, .int 1, .ref 65]) (h' := kv_wd (kv_uf g 11 f27) w) rfl ?_
        obtain ⟨f15, k15, e15⟩ := ev_lawOf1 (E := E) (d := 799) (g := kv_uf g 11 f27) (w := w) hM b c e
        refine kx_call (z := 167) (as := [.ref 65, .int 1, .int b, .int c, .int e]) (rest := []) (v := some (.int (F1 b c e))) (h1 := kv_wd (kv_uf (kv_uf g 11 f27) 65 f15) w) rfl e15 ?_
        refine kx_st 0 (pc' := 18) (L' := [some (.ref 65), some (.int 1), some (.int b), some (.int c), some (.int e)]) (st' := [.int (F1 b c e)]) (h' := kv_wd (kv_uf (kv_uf g 11 f27) 65 f15) w) rfl ?_
        refine kx_st 1 (pc' := 27) (L' := [some (.ref 65), some (.int 1), some (.int b), some (.int c), some (.int e)]) (st' := [.int (F1 b c e)]) (h' := kv_wd (kv_uf (kv_uf g 11 f27) 65 f15) w) rfl ?_
        refine kx_ret (v := some (.int (F1 b c e))) rfl ?_
        exact ⟨rfl, _, _, rfl, kx_Rl_skip _ _ _ _ (kx_Rl_ro hR rfl (fun b h8 h11 h4 h65 h66 h68 h69 => (by rw [kv_uf_ne h65, kv_uf_ne h11])) k15 (fun _ _ => rfl))⟩
  · refine kx_two (by decide) (Nat.le_of_ble_eq_true rfl) (by decide) (Nat.le_of_ble_eq_true rfl) ?_
    refine kx_st 0 (pc' := 0) (L' := [some (.ref 0), some (.int a), some (.int b), some (.int c), some (.int e), none]) (st' := []) (h' := kv_wd g w) rfl ?_
    refine kx_st 3 (pc' := 5) (L' := [some (.ref 0), some (.int a), some (.int b), some (.int c), some (.int e), none]) (st' := [.int a, .ref 1]) (h' := kv_wd g w) rfl ?_
    refine kx_call (z := 18) (as := [.ref 1, .int a]) (rest := []) (v := some (.null)) (h1 := kv_wd g w) rfl (ev_lawAt_n (d := 898) a (fun z => ha (by rw [z]; decide)) (fun z => ha (by rw [z]; decide))) ?_
    refine kx_st 0 (pc' := 8) (L' := [some (.ref 0), some (.int a), some (.int b), some (.int c), some (.int e), none]) (st' := [.null]) (h' := kv_wd g w) rfl ?_
    refine kx_st 2 (pc' := 12) (L' := [some (.ref 0), some (.int a), some (.int b), some (.int c), some (.int e), some (.null)]) (st' := [.null]) (h' := kv_wd g w) rfl ?_
    refine kx_st 1 (pc' := 15) (L' := [some (.ref 0), some (.int a), some (.int b), some (.int c), some (.int e), some (.null)]) (st' := []) (h' := kv_wd g w) rfl ?_
    refine kx_st 2 (pc' := 17) (L' := [some (.ref 0), some (.int a), some (.int b), some (.int c), some (.int e), some (.null)]) (st' := [.int 1, .ref 0]) (h' := kv_wd g w) rfl ?_
    refine kx_call (z := 123) (as := [.ref 0, .int 1]) (rest := []) (v := some (.int (-1000000000 - nI 1))) (h1 := kv_wd (kv_up g 64 1 (g 64 1 + 1)) w) rfl (ev_error (d := 898) 1 (by decide) (by decide)) ?_
    refine kx_st 0 (pc' := 20) (L' := [some (.ref 0), some (.int a), some (.int b), some (.int c), some (.int e), some (.null)]) (st' := [.int (-1000000000 - nI 1)]) (h' := kv_wd (kv_up g 64 1 (g 64 1 + 1)) w) rfl ?_
    refine kx_ret (v := some (.int (-1000000000 - nI 1))) rfl ?_
    refine ⟨_, _, _, rfl, rfl, ?_⟩
    refine kx_st 0 (pc' := 0) (L' := [some (.ref 65), some (.int a), some (.int b), some (.int c), some (.int e)]) (st' := []) (h' := kv_wd (kv_up g 64 1 (g 64 1 + 1)) w) rfl ?_
    refine kx_st 3 (pc' := 3) (L' := [some (.ref 65), some (.int a), some (.int b), some (.int c), some (.int e)]) (st' := [.int 1, .int 0, .int a]) (h' := kv_wd (kv_up g 64 1 (g 64 1 + 1)) w) rfl ?_
    refine kx_call (z := 130) (as := [.int a, .int 0, .int 1]) (rest := []) (v := some (.int (kx_b (0 ≤ a ∧ a ≤ 1)))) (h1 := kv_wd (kv_up g 64 1 (g 64 1 + 1)) w) rfl (ev_in (d := 898) a 0 1) ?_
    refine kx_st 0 (pc' := 6) (L' := [some (.ref 65), some (.int a), some (.int b), some (.int c), some (.int e)]) (st' := [.int (kx_b (0 ≤ a ∧ a ≤ 1))]) (h' := kv_wd (kv_up g 64 1 (g 64 1 + 1)) w) rfl ?_
    refine kx_be (t := 21) rfl rfl (fun (m6 : ¬ (0 ≤ a ∧ a ≤ 1)) => ?_) (fun (m6 : (0 ≤ a ∧ a ≤ 1)) => ?_)
    · refine kx_st 2 (pc' := 24) (L' := [some (.ref 65), some (.int a), some (.int b), some (.int c), some (.int e)]) (st' := [.int (-1000000001), .ref 65]) (h' := kv_wd (kv_up g 64 1 (g 64 1 + 1)) w) rfl ?_
      refine kx_call (z := 131) (as := [.ref 65, .int (-1000000001)]) (rest := []) (v := some (.int (-1000000001))) (h1 := kv_wd (kv_up (kv_up g 64 1 (g 64 1 + 1)) 70 1 ((kv_up g 64 1 (g 64 1 + 1)) 70 1 + 1)) w) rfl (ev_errs (d := 898) (-1000000001) 1 (by decide) (by decide)) ?_
      refine kx_st 0 (pc' := 27) (L' := [some (.ref 65), some (.int a), some (.int b), some (.int c), some (.int e)]) (st' := [.int (-1000000001)]) (h' := kv_wd (kv_up (kv_up g 64 1 (g 64 1 + 1)) 70 1 ((kv_up g 64 1 (g 64 1 + 1)) 70 1 + 1)) w) rfl ?_
      refine kx_ret (v := some (.int (-1000000001))) rfl ?_
      exact ⟨rfl, _, _, rfl, kx_Rl_e hR⟩
    · exact absurd m6 ha
set_option maxRecDepth 100000 in
theorem pr_then {E : kv_V} (a b c : Int32) : kx_ok2 E (kx_Rl kx_L) 96 185 [.int a, .int b, .int c] := by
  intro g w i hR hi
  obtain ⟨F0, F1, s, t, m, hF0, hF1, hX, hM, hKB⟩ := kx_Rl_XM hR
  obtain ⟨q0, hq0, hm0, hb0, hy0⟩ := kx_Rl_q hR
  have q := hR.1
  have b1 := hX.2.1.1
  have b2 := hM.2.1.1
  have a1 := hX.1.1
  have a2 := hX.1.2.1
  have a4 := hX.1.2.2.2
  have d1 := hX.2.1.2.2
  have d2 := hM.2.1.2
  by_cases ha : 0 ≤ a ∧ a ≤ 60
  · by_cases hp : 0 ≤ b ∧ b < nI s
    · by_cases hc : 0 ≤ c ∧ c ≤ 1
      · obtain ⟨n, hn60, rfl⟩ := kx_nIof (n := 60) ha.1 ha.2 (by omega)
        obtain ⟨p, hps, rfl⟩ := kx_nIlt hp.1 hp.2 (by omega)
        rcases kx_b1 hc with rfl | rfl
        · refine kx_two (by decide) (Nat.le_of_ble_eq_true rfl) (by decide) (Nat.le_of_ble_eq_true rfl) ?_
          refine kx_st 0 (pc' := 0) (L' := [some (.ref 0), some (.int (nI n)), some (.int (nI p)), some (.int 0)]) (st' := []) (h' := kv_wd g w) rfl ?_
          refine kx_st 2 (pc' := 3) (L' := [some (.ref 0), some (.int (nI n)), some (.int (nI p)), some (.int 0)]) (st' := [.int 60, .int (nI n)]) (h' := kv_wd g w) rfl ?_
          refine kx_call (z := 124) (as := [.int (nI n), .int 60]) (rest := []) (v := some (.int (kx_b (0 ≤ nI n ∧ nI n ≤ 60)))) (h1 := kv_wd g w) rfl (ev_within (d := 898) (nI n) 60) ?_
          refine kx_st 0 (pc' := 6) (L' := [some (.ref 0), some (.int (nI n)), some (.int (nI p)), some (.int 0)]) (st' := [.int (kx_b (0 ≤ nI n ∧ nI n ≤ 60))]) (h' := kv_wd g w) rfl ?_
          refine kx_be (t := 28) rfl rfl (fun (h6 : ¬ (0 ≤ nI n ∧ nI n ≤ 60)) => ?_) (fun (h6 : (0 ≤ nI n ∧ nI n ≤ 60)) => ?_)
          · exact absurd ha h6
          · refine kx_st 0 (pc' := 9) (L' := [some (.ref 0), some (.int (nI n)), some (.int (nI p)), some (.int 0)]) (st' := []) (h' := kv_wd g w) rfl ?_
            refine kx_st 3 (pc' := 14) (L' := [some (.ref 0), some (.int (nI n)), some (.int (nI p)), some (.int 0)]) (st' := [.int (nI p), .ref 1]) (h' := kv_wd g w) rfl ?_
            refine kx_call (z := 11) (as := [.ref 1, .int (nI p)]) (rest := []) (v := some (.int (kx_b (0 ≤ nI p ∧ nI p < nI s)))) (h1 := kv_wd g w) rfl (ev_isPersonS (d := 898) (g := g) (s := s) b1 (nI p)) ?_
            refine kx_st 0 (pc' := 17) (L' := [some (.ref 0), some (.int (nI n)), some (.int (nI p)), some (.int 0)]) (st' := [.int (kx_b (0 ≤ nI p ∧ nI p < nI s))]) (h' := kv_wd g w) rfl ?_
            refine kx_be (t := 28) rfl rfl (fun (h17 : ¬ (0 ≤ nI p ∧ nI p < nI s)) => ?_) (fun (h17 : (0 ≤ nI p ∧ nI p < nI s)) => ?_)
            · exact absurd hp h17
            · refine kx_st 0 (pc' := 20) (L' := [some (.ref 0), some (.int (nI n)), some (.int (nI p)), some (.int 0)]) (st' := []) (h' := kv_wd g w) rfl ?_
              refine kx_st 2 (pc' := 22) (L' := [some (.ref 0), some (.int (nI n)), some (.int (nI p)), some (.int 0)]) (st' := [.int 1, .int 0]) (h' := kv_wd g w) rfl ?_
              refine kx_call (z := 124) (as := [.int 0, .int 1]) (rest := []) (v := some (.int (kx_b (0 ≤ (0 : Int32) ∧ (0 : Int32) ≤ 1)))) (h1 := kv_wd g w) rfl (ev_within (d := 898) 0 1) ?_
              refine kx_st 0 (pc' := 25) (L' := [some (.ref 0), some (.int (nI n)), some (.int (nI p)), some (.int 0)]) (st' := [.int (kx_b (0 ≤ (0 : Int32) ∧ (0 : Int32) ≤ 1))]) (h' := kv_wd g w) rfl ?_
              refine kx_bn (t := 34) rfl rfl (fun (h25 : (0 ≤ (0 : Int32) ∧ (0 : Int32) ≤ 1)) => ?_) (fun (h25 : ¬ (0 ≤ (0 : Int32) ∧ (0 : Int32) ≤ 1)) => ?_)
              · refine kx_st 5 (pc' := 43) (L' := [some (.ref 0), some (.int (nI n)), some (.int (nI p)), some (.int 0)]) (st' := [.int (nI n), .ref 1, .ref 43]) (h' := kv_wd g w) rfl ?_
                obtain ⟨g43, e43, q43, r43⟩ := ev_goBehind (E := E) (d := 891) (w := w) hX q0 hq0 n hn60
                refine kx_call (z := 60) (as := [.ref 43, .ref 1, .int (nI n)]) (rest := []) (v := none) (h1 := kv_wd g43 w) rfl e43 ?_
                refine kx_st 0 (pc' := 46) (L' := [some (.ref 0), some (.int (nI n)), some (.int (nI p)), some (.int 0)]) (st' := []) (h' := kv_wd g43 w) rfl ?_
                refine kx_st 5 (pc' := 55) (L' := [some (.ref 0), some (.int (nI n)), some (.int (nI p)), some (.int 0)]) (st' := [.int 0, .int (nI p), .ref 44]) (h' := kv_wd g43 w) rfl ?_
                refine kx_call (z := 2) (as := [.ref 44, .int (nI p), .int 0]) (rest := []) (v := some (.int (g43 (44 + 1) p))) (h1 := kv_wd g43 w) rfl (ev_handL (d := 898) (g := g43) kv_hd44 p (by omega)) ?_
                refine kx_st 0 (pc' := 58) (L' := [some (.ref 0), some (.int (nI n)), some (.int (nI p)), some (.int 0)]) (st' := [.int (g43 (44 + 1) p)]) (h' := kv_wd g43 w) rfl ?_
                refine kx_ret (v := some (.int (g43 (44 + 1) p))) rfl ?_
                refine ⟨_, _, _, rfl, rfl, ?_⟩
                refine kx_st 0 (pc' := 0) (L' := [some (.ref 65), some (.int (nI n)), some (.int (nI p)), some (.int 0), none]) (st' := []) (h' := kv_wd g43 w) rfl ?_
                refine kx_st 3 (pc' := 4) (L' := [some (.ref 65), some (.int (nI n)), some (.int (nI p)), some (.int 0), none]) (st' := [.int 60, .int 0, .int (nI n)]) (h' := kv_wd g43 w) rfl ?_
                refine kx_call (z := 130) (as := [.int (nI n), .int 0, .int 60]) (rest := []) (v := some (.int (kx_b (0 ≤ nI n ∧ nI n ≤ 60)))) (h1 := kv_wd g43 w) rfl (ev_in (d := 898) (nI n) 0 60) ?_
                refine kx_st 0 (pc' := 7) (L' := [some (.ref 65), some (.int (nI n)), some (.int (nI p)), some (.int 0), none]) (st' := [.int (kx_b (0 ≤ nI n ∧ nI n ≤ 60))]) (h' := kv_wd g43 w) rfl ?_
                refine kx_be (t := 27) rfl rfl (fun (m7 : ¬ (0 ≤ nI n ∧ nI n ≤ 60)) => ?_) (fun (m7 : (0 ≤ nI n ∧ nI n ≤ 60)) => ?_)
                · exact absurd ha m7
                · refine kx_st 0 (pc' := 10) (L' := [some (.ref 65), some (.int (nI n)), some (.int (nI p)), some (.int 0), none]) (st' := []) (h' := kv_wd g43 w) rfl ?_
                  refine kx_st 2 (pc' := 12) (L' := [some (.ref 65), some (.int (nI n)), some (.int (nI p)), some (.int 0), none]) (st' := [.int (nI p), .ref 65]) (h' := kv_wd g43 w) rfl ?_
                  refine kx_call (z := 138) (as := [.ref 65, .int (nI p)]) (rest := []) (v := some (.int (kx_b (0 ≤ nI p ∧ nI p < nI s)))) (h1 := kv_wd g43 w) rfl (ev_mPersonS (d := 897) (g := g43) (s := s) (by rw [r43 66 (by omega) (by omega) (by omega) (by omega)]; exact b2) a2 (nI p)) ?_
                  refine kx_st 0 (pc' := 15) (L' := [some (.ref 65), some (.int (nI n)), some (.int (nI p)), some (.int 0), none]) (st' := [.int (kx_b (0 ≤ nI p ∧ nI p < nI s))]) (h' := kv_wd g43 w) rfl ?_
                  refine kx_be (t := 27) rfl rfl (fun (m15 : ¬ (0 ≤ nI p ∧ nI p < nI s)) => ?_) (fun (m15 : (0 ≤ nI p ∧ nI p < nI s)) => ?_)
                  · exact absurd hp m15
                  · refine kx_st 0 (pc' := 18) (L' := [some (.ref 65), some (.int (nI n)), some (.int (nI p)), some (.int 0), none]) (st' := []) (h' := kv_wd g43 w) rfl ?_
                    refine kx_st 3 (pc' := 21) (L' := [some (.ref 65), some (.int (nI n)), some (.int (nI p)), some (.int 0), none]) (st' := [.int 1, .int 0, .int 0]) (h' := kv_wd g43 w) rfl ?_
                    refine kx_call (z := 130) (as := [.int 0, .int 0, .int 1]) (rest := []) (v := some (.int (kx_b (0 ≤ (0 : Int32) ∧ (0 : Int32) ≤ 1)))) (h1 := kv_wd g43 w) rfl (ev_in (d := 898) 0 0 1) ?_
                    refine kx_st 0 (pc' := 24) (L' := [some (.ref 65), some (.int (nI n)), some (.int (nI p)), some (.int 0), none]) (st' := [.int (kx_b (0 ≤ (0 : Int32) ∧ (0 : Int32) ≤ 1))]) (h' := kv_wd g43 w) rfl ?_
                    refine kx_bn (t := 34) rfl rfl (fun (m24 : (0 ≤ (0 : Int32) ∧ (0 : Int32) ≤ 1)) => ?_) (fun (m24 : ¬ (0 ≤ (0 : Int32) ∧ (0 : Int32) ≤ 1)) => ?_)
                    · refine kx_st 5 (pc' := 43) (L' := [some (.ref 65), some (.int (nI n)), some (.int (nI p)), some (.int 0), none]) (st' := [.ref 68, .ref 66, .ref 65]) (h' := kv_wd g43 w) rfl ?_
                      refine kx_call (z := 133) (as := [.ref 65, .ref 66, .ref 68]) (rest := []) (v := none) (h1 := kv_wd (kv_uf g43 68 (kx_mv (g43 66) (g43 68) 268)) w) rfl (ev_moveAll (d := 898) (a := 66) (b := 68) rfl rfl (by decide) (by decide) (by decide)) ?_
                      refine kx_st 0 (pc' := 46) (L' := [some (.ref 65), some (.int (nI n)), some (.int (nI p)), some (.int 0), none]) (st' := []) (h' := kv_wd (kv_uf g43 68 (kx_mv (g43 66) (g43 68) 268)) w) rfl ?_
                      refine kx_st 2 (pc' := 48) (L' := [some (.ref 65), some (.int (nI n)), some (.int (nI p)), some (.int 0), none]) (st' := [.int (nI n), .ref 65]) (h' := kv_wd (kv_uf g43 68 (kx_mv (g43 66) (g43 68) 268)) w) rfl ?_
                      obtain ⟨g48, e48, q48, x48, y48, z48⟩ := ev_passes (E := E) (d := 797) (g := kv_uf g43 68 (kx_mv (g43 66) (g43 68) 268)) (w := w) (by show kx_M F0 F1 s t m _ (g43 66); rw [r43 66 (by omega) (by omega) (by omega) (by omega)]; exact hM) q0 (by show kx_hmq (g43 66) q0; rw [r43 66 (by omega) (by omega) (by omega) (by omega)]; exact hm0) n hn60
                      refine kx_call (z := 179) (as := [.ref 65, .int (nI n)]) (rest := []) (v := none) (h1 := kv_wd g48 w) rfl e48 ?_
                      refine kx_st 0 (pc' := 51) (L' := [some (.ref 65), some (.int (nI n)), some (.int (nI p)), some (.int 0), none]) (st' := []) (h' := kv_wd g48 w) rfl ?_
                      refine kx_st 9 (pc' := 64) (L' := [some (.ref 65), some (.int (nI n)), some (.int (nI p)), some (.int 0), none]) (st' := [.int (8 + (nI p)), .ref 66]) (h' := kv_wd g48 w) rfl ?_
                      refine kx_ia (k := (8 + p)) rfl rfl (by decide) (by first | rfl | exact kx_nadd _ _) (by omega) (by decide) ?_
                      refine kx_st 6 (pc' := 76) (L' := [some (.ref 65), some (.int (nI n)), some (.int (nI p)), some (.int 0), some (.int (g48 66 (8 + p)))]) (st' := [.ref 66, .ref 68, .ref 65]) (h' := kv_wd g48 w) rfl ?_
                      refine kx_call (z := 133) (as := [.ref 65, .ref 68, .ref 66]) (rest := []) (v := none) (h1 := kv_wd (kv_uf g48 66 (kx_mv (g48 68) (g48 66) 268)) w) rfl (ev_moveAll (d := 898) (a := 68) (b := 66) rfl rfl (by decide) (by decide) (by decide)) ?_
                      refine kx_st 0 (pc' := 79) (L' := [some (.ref 65), some (.int (nI n)), some (.int (nI p)), some (.int 0), some (.int (g48 66 (8 + p)))]) (st' := []) (h' := kv_wd (kv_uf g48 66 (kx_mv (g48 68) (g48 66) 268)) w) rfl ?_
                      refine kx_st 1 (pc' := 81) (L' := [some (.ref 65), some (.int (nI n)), some (.int (nI p)), some (.int 0), some (.int (g48 66 (8 + p)))]) (st' := [.int (g48 66 (8 + p))]) (h' := kv_wd (kv_uf g48 66 (kx_mv (g48 68) (g48 66) 268)) w) rfl ?_
                      refine kx_ret (v := some (.int (g48 66 (8 + p)))) rfl ?_
                      have ea : g48 66 (8 + p) = g43 45 p := ((q48.1 p (by omega)).1).trans ((q43.1 p (by omega)).1).symm
                      refine ⟨by rw [ea], _, _, rfl, kx_Rl_skip _ _ _ _ (kx_Rl_ro hR rfl (fun b h8 h11 h4 h65 h66 h68 h69 => ?_) (fun k hk => (z48 k hk).trans (congrFun (r43 65 (by omega) (by omega) (by omega) (by omega)) k)) (fun j hj => (kx_tm_end y48 j hj).trans (congrFun (r43 66 (by omega) (by omega) (by omega) (by omega)) j)))⟩
                      rw [kv_uf_ne h66, y48 b h65 h66, kv_uf_ne h68]
                      exact r43 b h8 (by omega) (by omega) (by omega)
                    · exact absurd hc m24
              · exact absurd hc h25
        · refine kx_two (by decide) (Nat.le_of_ble_eq_true rfl) (by decide) (Nat.le_of_ble_eq_true rfl) ?_
          refine kx_st 0 (pc' := 0) (L' := [some (.ref 0), some (.int (nI n)), some (.int (nI p)), some (.int 1)]) (st' := []) (h' := kv_wd g w) rfl ?_
          refine kx_st 2 (pc' := 3) (L' := [some (.ref 0), some (.int (nI n)), some (.int (nI p)), some (.int 1)]) (st' := [.int 60, .int (nI n)]) (h' := kv_wd g w) rfl ?_
          refine kx_call (z := 124) (as := [.int (nI n), .int 60]) (rest := []) (v := some (.int (kx_b (0 ≤ nI n ∧ nI n ≤ 60)))) (h1 := kv_wd g w) rfl (ev_within (d := 898) (nI n) 60) ?_
          refine kx_st 0 (pc' := 6) (L' := [some (.ref 0), some (.int (nI n)), some (.int (nI p)), some (.int 1)]) (st' := [.int (kx_b (0 ≤ nI n ∧ nI n ≤ 60))]) (h' := kv_wd g w) rfl ?_
          refine kx_be (t := 28) rfl rfl (fun (h6 : ¬ (0 ≤ nI n ∧ nI n ≤ 60)) => ?_) (fun (h6 : (0 ≤ nI n ∧ nI n ≤ 60)) => ?_)
          · exact absurd ha h6
          · refine kx_st 0 (pc' := 9) (L' := [some (.ref 0), some (.int (nI n)), some (.int (nI p)), some (.int 1)]) (st' := []) (h' := kv_wd g w) rfl ?_
            refine kx_st 3 (pc' := 14) (L' := [some (.ref 0), some (.int (nI n)), some (.int (nI p)), some (.int 1)]) (st' := [.int (nI p), .ref 1]) (h' := kv_wd g w) rfl ?_
            refine kx_call (z := 11) (as := [.ref 1, .int (nI p)]) (rest := []) (v := some (.int (kx_b (0 ≤ nI p ∧ nI p < nI s)))) (h1 := kv_wd g w) rfl (ev_isPersonS (d := 898) (g := g) (s := s) b1 (nI p)) ?_
            refine kx_st 0 (pc' := 17) (L' := [some (.ref 0), some (.int (nI n)), some (.int (nI p)), some (.int 1)]) (st' := [.int (kx_b (0 ≤ nI p ∧ nI p < nI s))]) (h' := kv_wd g w) rfl ?_
            refine kx_be (t := 28) rfl rfl (fun (h17 : ¬ (0 ≤ nI p ∧ nI p < nI s)) => ?_) (fun (h17 : (0 ≤ nI p ∧ nI p < nI s)) => ?_)
            · exact absurd hp h17
            · refine kx_st 0 (pc' := 20) (L' := [some (.ref 0), some (.int (nI n)), some (.int (nI p)), some (.int 1)]) (st' := []) (h' := kv_wd g w) rfl ?_
              refine kx_st 2 (pc' := 22) (L' := [some (.ref 0), some (.int (nI n)), some (.int (nI p)), some (.int 1)]) (st' := [.int 1, .int 1]) (h' := kv_wd g w) rfl ?_
              refine kx_call (z := 124) (as := [.int 1, .int 1]) (rest := []) (v := some (.int (kx_b (0 ≤ (1 : Int32) ∧ (1 : Int32) ≤ 1)))) (h1 := kv_wd g w) rfl (ev_within (d := 898) 1 1) ?_
              refine kx_st 0 (pc' := 25) (L' := [some (.ref 0), some (.int (nI n)), some (.int (nI p)), some (.int 1)]) (st' := [.int (kx_b (0 ≤ (1 : Int32) ∧ (1 : Int32) ≤ 1))]) (h' := kv_wd g w) rfl ?_
              refine kx_bn (t := 34) rfl rfl (fun (h25 : (0 ≤ (1 : Int32) ∧ (1 : Int32) ≤ 1)) => ?_) (fun (h25 : ¬ (0 ≤ (1 : Int32) ∧ (1 : Int32) ≤ 1)) => ?_)
              · refine kx_st 5 (pc' := 43) (L' := [some (.ref 0), some (.int (nI n)), some (.int (nI p)), some (.int 1)]) (st' := [.int (nI n), .ref 1, .ref 43]) (h' := kv_wd g w) rfl ?_
                obtain ⟨g43, e43, q43, r43⟩ := ev_goBehind (E := E) (d := 891) (w := w) hX q0 hq0 n hn60
                refine kx_call (z := 60) (as := [.ref 43, .ref 1, .int (nI n)]) (rest := []) (v := none) (h1 := kv_wd g43 w) rfl e43 ?_
                refine kx_st 0 (pc' := 46) (L' := [some (.ref 0), some (.int (nI n)), some (.int (nI p)), some (.int 1)]) (st' := []) (h' := kv_wd g43 w) rfl ?_
                refine kx_st 5 (pc' := 55) (L' := [some (.ref 0), some (.int (nI n)), some (.int (nI p)), some (.int 1)]) (st' := [.int 1, .int (nI p), .ref 44]) (h' := kv_wd g43 w) rfl ?_
                refine kx_call (z := 2) (as := [.ref 44, .int (nI p), .int 1]) (rest := []) (v := some (.int (g43 (44 + 2) p))) (h1 := kv_wd g43 w) rfl (ev_handR (d := 898) (g := g43) kv_hd44 p (by omega)) ?_
                refine kx_st 0 (pc' := 58) (L' := [some (.ref 0), some (.int (nI n)), some (.int (nI p)), some (.int 1)]) (st' := [.int (g43 (44 + 2) p)]) (h' := kv_wd g43 w) rfl ?_
                refine kx_ret (v := some (.int (g43 (44 + 2) p))) rfl ?_
                refine ⟨_, _, _, rfl, rfl, ?_⟩
                refine kx_st 0 (pc' := 0) (L' := [some (.ref 65), some (.int (nI n)), some (.int (nI p)), some (.int 1), none]) (st' := []) (h' := kv_wd g43 w) rfl ?_
                refine kx_st 3 (pc' := 4) (L' := [some (.ref 65), some (.int (nI n)), some (.int (nI p)), some (.int 1), none]) (st' := [.int 60, .int 0, .int (nI n)]) (h' := kv_wd g43 w) rfl ?_
                refine kx_call (z := 130) (as := [.int (nI n), .int 0, .int 60]) (rest := []) (v := some (.int (kx_b (0 ≤ nI n ∧ nI n ≤ 60)))) (h1 := kv_wd g43 w) rfl (ev_in (d := 898) (nI n) 0 60) ?_
                refine kx_st 0 (pc' := 7) (L' := [some (.ref 65), some (.int (nI n)), some (.int (nI p)), some (.int 1), none]) (st' := [.int (kx_b (0 ≤ nI n ∧ nI n ≤ 60))]) (h' := kv_wd g43 w) rfl ?_
                refine kx_be (t := 27) rfl rfl (fun (m7 : ¬ (0 ≤ nI n ∧ nI n ≤ 60)) => ?_) (fun (m7 : (0 ≤ nI n ∧ nI n ≤ 60)) => ?_)
                · exact absurd ha m7
                · refine kx_st 0 (pc' := 10) (L' := [some (.ref 65), some (.int (nI n)), some (.int (nI p)), some (.int 1), none]) (st' := []) (h' := kv_wd g43 w) rfl ?_
                  refine kx_st 2 (pc' := 12) (L' := [some (.ref 65), some (.int (nI n)), some (.int (nI p)), some (.int 1), none]) (st' := [.int (nI p), .ref 65]) (h' := kv_wd g43 w) rfl ?_
                  refine kx_call (z := 138) (as := [.ref 65, .int (nI p)]) (rest := []) (v := some (.int (kx_b (0 ≤ nI p ∧ nI p < nI s)))) (h1 := kv_wd g43 w) rfl (ev_mPersonS (d := 897) (g := g43) (s := s) (by rw [r43 66 (by omega) (by omega) (by omega) (by omega)]; exact b2) a2 (nI p)) ?_
                  refine kx_st 0 (pc' := 15) (L' := [some (.ref 65), some (.int (nI n)), some (.int (nI p)), some (.int 1), none]) (st' := [.int (kx_b (0 ≤ nI p ∧ nI p < nI s))]) (h' := kv_wd g43 w) rfl ?_
                  refine kx_be (t := 27) rfl rfl (fun (m15 : ¬ (0 ≤ nI p ∧ nI p < nI s)) => ?_) (fun (m15 : (0 ≤ nI p ∧ nI p < nI s)) => ?_)
                  · exact absurd hp m15
                  · refine kx_st 0 (pc' := 18) (L' := [some (.ref 65), some (.int (nI n)), some (.int (nI p)), some (.int 1), none]) (st' := []) (h' := kv_wd g43 w) rfl ?_
                    refine kx_st 3 (pc' := 21) (L' := [some (.ref 65), some (.int (nI n)), some (.int (nI p)), some (.int 1), none]) (st' := [.int 1, .int 0, .int 1]) (h' := kv_wd g43 w) rfl ?_
                    refine kx_call (z := 130) (as := [.int 1, .int 0, .int 1]) (rest := []) (v := some (.int (kx_b (0 ≤ (1 : Int32) ∧ (1 : Int32) ≤ 1)))) (h1 := kv_wd g43 w) rfl (ev_in (d := 898) 1 0 1) ?_
                    refine kx_st 0 (pc' := 24) (L' := [some (.ref 65), some (.int (nI n)), some (.int (nI p)), some (.int 1), none]) (st' := [.int (kx_b (0 ≤ (1 : Int32) ∧ (1 : Int32) ≤ 1))]) (h' := kv_wd g43 w) rfl ?_
                    refine kx_bn (t := 34) rfl rfl (fun (m24 : (0 ≤ (1 : Int32) ∧ (1 : Int32) ≤ 1)) => ?_) (fun (m24 : ¬ (0 ≤ (1 : Int32) ∧ (1 : Int32) ≤ 1)) => ?_)
                    · refine kx_st 5 (pc' := 43) (L' := [some (.ref 65), some (.int (nI n)), some (.int (nI p)), some (.int 1), none]) (st' := [.ref 68, .ref 66, .ref 65]) (h' := kv_wd g43 w) rfl ?_
                      refine kx_call (z := 133) (as := [.ref 65, .ref 66, .ref 68]) (rest := []) (v := none) (h1 := kv_wd (kv_uf g43 68 (kx_mv (g43 66) (g43 68) 268)) w) rfl (ev_moveAll (d := 898) (a := 66) (b := 68) rfl rfl (by decide) (by decide) (by decide)) ?_
                      refine kx_st 0 (pc' := 46) (L' := [some (.ref 65), some (.int (nI n)), some (.int (nI p)), some (.int 1), none]) (st' := []) (h' := kv_wd (kv_uf g43 68 (kx_mv (g43 66) (g43 68) 268)) w) rfl ?_
                      refine kx_st 2 (pc' := 48) (L' := [some (.ref 65), some (.int (nI n)), some (.int (nI p)), some (.int 1), none]) (st' := [.int (nI n), .ref 65]) (h' := kv_wd (kv_uf g43 68 (kx_mv (g43 66) (g43 68) 268)) w) rfl ?_
                      obtain ⟨g48, e48, q48, x48, y48, z48⟩ := ev_passes (E := E) (d := 797) (g := kv_uf g43 68 (kx_mv (g43 66) (g43 68) 268)) (w := w) (by show kx_M F0 F1 s t m _ (g43 66); rw [r43 66 (by omega) (by omega) (by omega) (by omega)]; exact hM) q0 (by show kx_hmq (g43 66) q0; rw [r43 66 (by omega) (by omega) (by omega) (by omega)]; exact hm0) n hn60
                      refine kx_call (z := 179) (as := [.ref 65, .int (nI n)]) (rest := []) (v := none) (h1 := kv_wd g48 w) rfl e48 ?_
                      refine kx_st 0 (pc' := 51) (L' := [some (.ref 65), some (.int (nI n)), some (.int (nI p)), some (.int 1), none]) (st' := []) (h' := kv_wd g48 w) rfl ?_
                      refine kx_st 9 (pc' := 64) (L' := [some (.ref 65), some (.int (nI n)), some (.int (nI p)), some (.int 1), none]) (st' := [.int (14 + (nI p)), .ref 66]) (h' := kv_wd g48 w) rfl ?_
                      refine kx_ia (k := (14 + p)) rfl rfl (by decide) (by first | rfl | exact kx_nadd _ _) (by omega) (by decide) ?_
                      refine kx_st 6 (pc' := 76) (L' := [some (.ref 65), some (.int (nI n)), some (.int (nI p)), some (.int 1), some (.int (g48 66 (14 + p)))]) (st' := [.ref 66, .ref 68, .ref 65]) (h' := kv_wd g48 w) rfl ?_
                      refine kx_call (z := 133) (as := [.ref 65, .ref 68, .ref 66]) (rest := []) (v := none) (h1 := kv_wd (kv_uf g48 66 (kx_mv (g48 68) (g48 66) 268)) w) rfl (ev_moveAll (d := 898) (a := 68) (b := 66) rfl rfl (by decide) (by decide) (by decide)) ?_
                      refine kx_st 0 (pc' := 79) (L' := [some (.ref 65), some (.int (nI n)), some (.int (nI p)), some (.int 1), some (.int (g48 66 (14 + p)))]) (st' := []) (h' := kv_wd (kv_uf g48 66 (kx_mv (g48 68) (g48 66) 268)) w) rfl ?_
                      refine kx_st 1 (pc' := 81) (L' := [some (.ref 65), some (.int (nI n)), some (.int (nI p)), some (.int 1), some (.int (g48 66 (14 + p)))]) (st' := [.int (g48 66 (14 + p))]) (h' := kv_wd (kv_uf g48 66 (kx_mv (g48 68) (g48 66) 268)) w) rfl ?_
                      refine kx_ret (v := some (.int (g48 66 (14 + p)))) rfl ?_
                      have ea : g48 66 (14 + p) = g43 46 p := ((q48.1 p (by omega)).2).trans ((q43.1 p (by omega)).2).symm
                      refine ⟨by rw [ea], _, _, rfl, kx_Rl_skip _ _ _ _ (kx_Rl_ro hR rfl (fun b h8 h11 h4 h65 h66 h68 h69 => ?_) (fun k hk => (z48 k hk).trans (congrFun (r43 65 (by omega) (by omega) (by omega) (by omega)) k)) (fun j hj => (kx_tm_end y48 j hj).trans (congrFun (r43 66 (by omega) (by omega) (by omega) (by omega)) j)))⟩
                      rw [kv_uf_ne h66, y48 b h65 h66, kv_uf_ne h68]
                      exact r43 b h8 (by omega) (by omega) (by omega)
                    · exact absurd hc m24
              · exact absurd hc h25
      · refine kx_two (by decide) (Nat.le_of_ble_eq_true rfl) (by decide) (Nat.le_of_ble_eq_true rfl) ?_
        refine kx_st 0 (pc' := 0) (L' := [some (.ref 0), some (.int a), some (.int b), some (.int c)]) (st' := []) (h' := kv_wd g w) rfl ?_
        refine kx_st 2 (pc' := 3) (L' := [some (.ref 0), some (.int a), some (.int b), some (.int c)]) (st' := [.int 60, .int a]) (h' := kv_wd g w) rfl ?_
        refine kx_call (z := 124) (as := [.int a, .int 60]) (rest := []) (v := some (.int (kx_b (0 ≤ a ∧ a ≤ 60)))) (h1 := kv_wd g w) rfl (ev_within (d := 898) a 60) ?_
        refine kx_st 0 (pc' := 6) (L' := [some (.ref 0), some (.int a), some (.int b), some (.int c)]) (st' := [.int (kx_b (0 ≤ a ∧ a ≤ 60))]) (h' := kv_wd g w) rfl ?_
        refine kx_be (t := 28) rfl rfl (fun (h6 : ¬ (0 ≤ a ∧ a ≤ 60)) => ?_) (fun (h6 : (0 ≤ a ∧ a ≤ 60)) => ?_)
        · refine kx_st 2 (pc' := 30) (L' := [some (.ref 0), some (.int a), some (.int b), some (.int c)]) (st' := [.int 1, .ref 0]) (h' := kv_wd g w) rfl ?_
          refine kx_call (z := 123) (as := [.ref 0, .int 1]) (rest := []) (v := some (.int (-1000000000 - nI 1))) (h1 := kv_wd (kv_up g 64 1 (g 64 1 + 1)) w) rfl (ev_error (d := 898) 1 (by decide) (by decide)) ?_
          refine kx_st 0 (pc' := 33) (L' := [some (.ref 0), some (.int a), some (.int b), some (.int c)]) (st' := [.int (-1000000000 - nI 1)]) (h' := kv_wd (kv_up g 64 1 (g 64 1 + 1)) w) rfl ?_
          refine kx_ret (v := some (.int (-1000000000 - nI 1))) rfl ?_
          refine ⟨_, _, _, rfl, rfl, ?_⟩
          refine kx_st 0 (pc' := 0) (L' := [some (.ref 65), some (.int a), some (.int b), some (.int c), none]) (st' := []) (h' := kv_wd (kv_up g 64 1 (g 64 1 + 1)) w) rfl ?_
          refine kx_st 3 (pc' := 4) (L' := [some (.ref 65), some (.int a), some (.int b), some (.int c), none]) (st' := [.int 60, .int 0, .int a]) (h' := kv_wd (kv_up g 64 1 (g 64 1 + 1)) w) rfl ?_
          refine kx_call (z := 130) (as := [.int a, .int 0, .int 60]) (rest := []) (v := some (.int (kx_b (0 ≤ a ∧ a ≤ 60)))) (h1 := kv_wd (kv_up g 64 1 (g 64 1 + 1)) w) rfl (ev_in (d := 898) a 0 60) ?_
          refine kx_st 0 (pc' := 7) (L' := [some (.ref 65), some (.int a), some (.int b), some (.int c), none]) (st' := [.int (kx_b (0 ≤ a ∧ a ≤ 60))]) (h' := kv_wd (kv_up g 64 1 (g 64 1 + 1)) w) rfl ?_
          refine kx_be (t := 27) rfl rfl (fun (m7 : ¬ (0 ≤ a ∧ a ≤ 60)) => ?_) (fun (m7 : (0 ≤ a ∧ a ≤ 60)) => ?_)
          · refine kx_st 2 (pc' := 30) (L' := [some (.ref 65), some (.int a), some (.int b), some (.int c), none]) (st' := [.int (-1000000001), .ref 65]) (h' := kv_wd (kv_up g 64 1 (g 64 1 + 1)) w) rfl ?_
            refine kx_call (z := 131) (as := [.ref 65, .int (-1000000001)]) (rest := []) (v := some (.int (-1000000001))) (h1 := kv_wd (kv_up (kv_up g 64 1 (g 64 1 + 1)) 70 1 ((kv_up g 64 1 (g 64 1 + 1)) 70 1 + 1)) w) rfl (ev_errs (d := 898) (-1000000001) 1 (by decide) (by decide)) ?_
            refine kx_st 0 (pc' := 33) (L' := [some (.ref 65), some (.int a), some (.int b), some (.int c), none]) (st' := [.int (-1000000001)]) (h' := kv_wd (kv_up (kv_up g 64 1 (g 64 1 + 1)) 70 1 ((kv_up g 64 1 (g 64 1 + 1)) 70 1 + 1)) w) rfl ?_
            refine kx_ret (v := some (.int (-1000000001))) rfl ?_
            exact ⟨rfl, _, _, rfl, kx_Rl_e hR⟩
          · exact absurd m7 h6
        · refine kx_st 0 (pc' := 9) (L' := [some (.ref 0), some (.int a), some (.int b), some (.int c)]) (st' := []) (h' := kv_wd g w) rfl ?_
          refine kx_st 3 (pc' := 14) (L' := [some (.ref 0), some (.int a), some (.int b), some (.int c)]) (st' := [.int b, .ref 1]) (h' := kv_wd g w) rfl ?_
          refine kx_call (z := 11) (as := [.ref 1, .int b]) (rest := []) (v := some (.int (kx_b (0 ≤ b ∧ b < nI s)))) (h1 := kv_wd g w) rfl (ev_isPersonS (d := 898) (g := g) (s := s) b1 b) ?_
          refine kx_st 0 (pc' := 17) (L' := [some (.ref 0), some (.int a), some (.int b), some (.int c)]) (st' := [.int (kx_b (0 ≤ b ∧ b < nI s))]) (h' := kv_wd g w) rfl ?_
          refine kx_be (t := 28) rfl rfl (fun (h17 : ¬ (0 ≤ b ∧ b < nI s)) => ?_) (fun (h17 : (0 ≤ b ∧ b < nI s)) => ?_)
          · refine kx_st 2 (pc' := 30) (L' := [some (.ref 0), some (.int a), some (.int b), some (.int c)]) (st' := [.int 1, .ref 0]) (h' := kv_wd g w) rfl ?_
            refine kx_call (z := 123) (as := [.ref 0, .int 1]) (rest := []) (v := some (.int (-1000000000 - nI 1))) (h1 := kv_wd (kv_up g 64 1 (g 64 1 + 1)) w) rfl (ev_error (d := 898) 1 (by decide) (by decide)) ?_
            refine kx_st 0 (pc' := 33) (L' := [some (.ref 0), some (.int a), some (.int b), some (.int c)]) (st' := [.int (-1000000000 - nI 1)]) (h' := kv_wd (kv_up g 64 1 (g 64 1 + 1)) w) rfl ?_
            refine kx_ret (v := some (.int (-1000000000 - nI 1))) rfl ?_
            refine ⟨_, _, _, rfl, rfl, ?_⟩
            refine kx_st 0 (pc' := 0) (L' := [some (.ref 65), some (.int a), some (.int b), some (.int c), none]) (st' := []) (h' := kv_wd (kv_up g 64 1 (g 64 1 + 1)) w) rfl ?_
            refine kx_st 3 (pc' := 4) (L' := [some (.ref 65), some (.int a), some (.int b), some (.int c), none]) (st' := [.int 60, .int 0, .int a]) (h' := kv_wd (kv_up g 64 1 (g 64 1 + 1)) w) rfl ?_
            refine kx_call (z := 130) (as := [.int a, .int 0, .int 60]) (rest := []) (v := some (.int (kx_b (0 ≤ a ∧ a ≤ 60)))) (h1 := kv_wd (kv_up g 64 1 (g 64 1 + 1)) w) rfl (ev_in (d := 898) a 0 60) ?_
            refine kx_st 0 (pc' := 7) (L' := [some (.ref 65), some (.int a), some (.int b), some (.int c), none]) (st' := [.int (kx_b (0 ≤ a ∧ a ≤ 60))]) (h' := kv_wd (kv_up g 64 1 (g 64 1 + 1)) w) rfl ?_
            refine kx_be (t := 27) rfl rfl (fun (m7 : ¬ (0 ≤ a ∧ a ≤ 60)) => ?_) (fun (m7 : (0 ≤ a ∧ a ≤ 60)) => ?_)
            · exact absurd h6 m7
            · refine kx_st 0 (pc' := 10) (L' := [some (.ref 65), some (.int a), some (.int b), some (.int c), none]) (st' := []) (h' := kv_wd (kv_up g 64 1 (g 64 1 + 1)) w) rfl ?_
              refine kx_st 2 (pc' := 12) (L' := [some (.ref 65), some (.int a), some (.int b), some (.int c), none]) (st' := [.int b, .ref 65]) (h' := kv_wd (kv_up g 64 1 (g 64 1 + 1)) w) rfl ?_
              refine kx_call (z := 138) (as := [.ref 65, .int b]) (rest := []) (v := some (.int (kx_b (0 ≤ b ∧ b < nI s)))) (h1 := kv_wd (kv_up g 64 1 (g 64 1 + 1)) w) rfl (ev_mPersonS (d := 897) (g := kv_up g 64 1 (g 64 1 + 1)) (s := s) b2 a2 b) ?_
              refine kx_st 0 (pc' := 15) (L' := [some (.ref 65), some (.int a), some (.int b), some (.int c), none]) (st' := [.int (kx_b (0 ≤ b ∧ b < nI s))]) (h' := kv_wd (kv_up g 64 1 (g 64 1 + 1)) w) rfl ?_
              refine kx_be (t := 27) rfl rfl (fun (m15 : ¬ (0 ≤ b ∧ b < nI s)) => ?_) (fun (m15 : (0 ≤ b ∧ b < nI s)) => ?_)
              · refine kx_st 2 (pc' := 30) (L' := [some (.ref 65), some (.int a), some (.int b), some (.int c), none]) (st' := [.int (-1000000001), .ref 65]) (h' := kv_wd (kv_up g 64 1 (g 64 1 + 1)) w) rfl ?_
                refine kx_call (z := 131) (as := [.ref 65, .int (-1000000001)]) (rest := []) (v := some (.int (-1000000001))) (h1 := kv_wd (kv_up (kv_up g 64 1 (g 64 1 + 1)) 70 1 ((kv_up g 64 1 (g 64 1 + 1)) 70 1 + 1)) w) rfl (ev_errs (d := 898) (-1000000001) 1 (by decide) (by decide)) ?_
                refine kx_st 0 (pc' := 33) (L' := [some (.ref 65), some (.int a), some (.int b), some (.int c), none]) (st' := [.int (-1000000001)]) (h' := kv_wd (kv_up (kv_up g 64 1 (g 64 1 + 1)) 70 1 ((kv_up g 64 1 (g 64 1 + 1)) 70 1 + 1)) w) rfl ?_
                refine kx_ret (v := some (.int (-1000000001))) rfl ?_
                exact ⟨rfl, _, _, rfl, kx_Rl_e hR⟩
              · exact absurd m15 h17
          · refine kx_st 0 (pc' := 20) (L' := [some (.ref 0), some (.int a), some (.int b), some (.int c)]) (st' := []) (h' := kv_wd g w) rfl ?_
            refine kx_st 2 (pc' := 22) (L' := [some (.ref 0), some (.int a), some (.int b), some (.int c)]) (st' := [.int 1, .int c]) (h' := kv_wd g w) rfl ?_
            refine kx_call (z := 124) (as := [.int c, .int 1]) (rest := []) (v := some (.int (kx_b (0 ≤ c ∧ c ≤ 1)))) (h1 := kv_wd g w) rfl (ev_within (d := 898) c 1) ?_
            refine kx_st 0 (pc' := 25) (L' := [some (.ref 0), some (.int a), some (.int b), some (.int c)]) (st' := [.int (kx_b (0 ≤ c ∧ c ≤ 1))]) (h' := kv_wd g w) rfl ?_
            refine kx_bn (t := 34) rfl rfl (fun (h25 : (0 ≤ c ∧ c ≤ 1)) => ?_) (fun (h25 : ¬ (0 ≤ c ∧ c ≤ 1)) => ?_)
            · exact absurd h25 hc
            · refine kx_st 0 (pc' := 28) (L' := [some (.ref 0), some (.int a), some (.int b), some (.int c)]) (st' := []) (h' := kv_wd g w) rfl ?_
              refine kx_st 2 (pc' := 30) (L' := [some (.ref 0), some (.int a), some (.int b), some (.int c)]) (st' := [.int 1, .ref 0]) (h' := kv_wd g w) rfl ?_
              refine kx_call (z := 123) (as := [.ref 0, .int 1]) (rest := []) (v := some (.int (-1000000000 - nI 1))) (h1 := kv_wd (kv_up g 64 1 (g 64 1 + 1)) w) rfl (ev_error (d := 898) 1 (by decide) (by decide)) ?_
              refine kx_st 0 (pc' := 33) (L' := [some (.ref 0), some (.int a), some (.int b), some (.int c)]) (st' := [.int (-1000000000 - nI 1)]) (h' := kv_wd (kv_up g 64 1 (g 64 1 + 1)) w) rfl ?_
              refine kx_ret (v := some (.int (-1000000000 - nI 1))) rfl ?_
              refine ⟨_, _, _, rfl, rfl, ?_⟩
              refine kx_st 0 (pc' := 0) (L' := [some (.ref 65), some (.int a), some (.int b), some (.int c), none]) (st' := []) (h' := kv_wd (kv_up g 64 1 (g 64 1 + 1)) w) rfl ?_
              refine kx_st 3 (pc' := 4) (L' := [some (.ref 65), some (.int a), some (.int b), some (.int c), none]) (st' := [.int 60, .int 0, .int a]) (h' := kv_wd (kv_up g 64 1 (g 64 1 + 1)) w) rfl ?_
              refine kx_call (z := 130) (as := [.int a, .int 0, .int 60]) (rest := []) (v := some (.int (kx_b (0 ≤ a ∧ a ≤ 60)))) (h1 := kv_wd (kv_up g 64 1 (g 64 1 + 1)) w) rfl (ev_in (d := 898) a 0 60) ?_
              refine kx_st 0 (pc' := 7) (L' := [some (.ref 65), some (.int a), some (.int b), some (.int c), none]) (st' := [.int (kx_b (0 ≤ a ∧ a ≤ 60))]) (h' := kv_wd (kv_up g 64 1 (g 64 1 + 1)) w) rfl ?_
              refine kx_be (t := 27) rfl rfl (fun (m7 : ¬ (0 ≤ a ∧ a ≤ 60)) => ?_) (fun (m7 : (0 ≤ a ∧ a ≤ 60)) => ?_)
              · exact absurd h6 m7
              · refine kx_st 0 (pc' := 10) (L' := [some (.ref 65), some (.int a), some (.int b), some (.int c), none]) (st' := []) (h' := kv_wd (kv_up g 64 1 (g 64 1 + 1)) w) rfl ?_
                refine kx_st 2 (pc' := 12) (L' := [some (.ref 65), some (.int a), some (.int b), some (.int c), none]) (st' := [.int b, .ref 65]) (h' := kv_wd (kv_up g 64 1 (g 64 1 + 1)) w) rfl ?_
                refine kx_call (z := 138) (as := [.ref 65, .int b]) (rest := []) (v := some (.int (kx_b (0 ≤ b ∧ b < nI s)))) (h1 := kv_wd (kv_up g 64 1 (g 64 1 + 1)) w) rfl (ev_mPersonS (d := 897) (g := kv_up g 64 1 (g 64 1 + 1)) (s := s) b2 a2 b) ?_
                refine kx_st 0 (pc' := 15) (L' := [some (.ref 65), some (.int a), some (.int b), some (.int c), none]) (st' := [.int (kx_b (0 ≤ b ∧ b < nI s))]) (h' := kv_wd (kv_up g 64 1 (g 64 1 + 1)) w) rfl ?_
                refine kx_be (t := 27) rfl rfl (fun (m15 : ¬ (0 ≤ b ∧ b < nI s)) => ?_) (fun (m15 : (0 ≤ b ∧ b < nI s)) => ?_)
                · exact absurd h17 m15
                · refine kx_st 0 (pc' := 18) (L' := [some (.ref 65), some (.int a), some (.int b), some (.int c), none]) (st' := []) (h' := kv_wd (kv_up g 64 1 (g 64 1 + 1)) w) rfl ?_
                  refine kx_st 3 (pc' := 21) (L' := [some (.ref 65), some (.int a), some (.int b), some (.int c), none]) (st' := [.int 1, .int 0, .int c]) (h' := kv_wd (kv_up g 64 1 (g 64 1 + 1)) w) rfl ?_
                  refine kx_call (z := 130) (as := [.int c, .int 0, .int 1]) (rest := []) (v := some (.int (kx_b (0 ≤ c ∧ c ≤ 1)))) (h1 := kv_wd (kv_up g 64 1 (g 64 1 + 1)) w) rfl (ev_in (d := 898) c 0 1) ?_
                  refine kx_st 0 (pc' := 24) (L' := [some (.ref 65), some (.int a), some (.int b), some (.int c), none]) (st' := [.int (kx_b (0 ≤ c ∧ c ≤ 1))]) (h' := kv_wd (kv_up g 64 1 (g 64 1 + 1)) w) rfl ?_
                  refine kx_bn (t := 34) rfl rfl (fun (m24 : (0 ≤ c ∧ c ≤ 1)) => ?_) (fun (m24 : ¬ (0 ≤ c ∧ c ≤ 1)) => ?_)
                  · exact absurd m24 hc
                  · refine kx_st 0 (pc' := 27) (L' := [some (.ref 65), some (.int a), some (.int b), some (.int c), none]) (st' := []) (h' := kv_wd (kv_up g 64 1 (g 64 1 + 1)) w) rfl ?_
                    refine kx_st 2 (pc' := 30) (L' := [some (.ref 65), some (.int a), some (.int b), some (.int c), none]) (st' := [.int (-1000000001), .ref 65]) (h' := kv_wd (kv_up g 64 1 (g 64 1 + 1)) w) rfl ?_
                    refine kx_call (z := 131) (as := [.ref 65, .int (-1000000001)]) (rest := []) (v := some (.int (-1000000001))) (h1 := kv_wd (kv_up (kv_up g 64 1 (g 64 1 + 1)) 70 1 ((kv_up g 64 1 (g 64 1 + 1)) 70 1 + 1)) w) rfl (ev_errs (d := 898) (-1000000001) 1 (by decide) (by decide)) ?_
                    refine kx_st 0 (pc' := 33) (L' := [some (.ref 65), some (.int a), some (.int b), some (.int c), none]) (st' := [.int (-1000000001)]) (h' := kv_wd (kv_up (kv_up g 64 1 (g 64 1 + 1)) 70 1 ((kv_up g 64 1 (g 64 1 + 1)) 70 1 + 1)) w) rfl ?_
                    refine kx_ret (v := some (.int (-1000000001))) rfl ?_
                    exact ⟨rfl, _, _, rfl, kx_Rl_e hR⟩
    · refine kx_two (by decide) (Nat.le_of_ble_eq_true rfl) (by decide) (Nat.le_of_ble_eq_true rfl) ?_
      refine kx_st 0 (pc' := 0) (L' := [some (.ref 0), some (.int a), some (.int b), some (.int c)]) (st' := []) (h' := kv_wd g w) rfl ?_
      refine kx_st 2 (pc' := 3) (L' := [some (.ref 0), some (.int a), some (.int b), some (.int c)]) (st' := [.int 60, .int a]) (h' := kv_wd g w) rfl ?_
      refine kx_call (z := 124) (as := [.int a, .int 60]) (rest := []) (v := some (.int (kx_b (0 ≤ a ∧ a ≤ 60)))) (h1 := kv_wd g w) rfl (ev_within (d := 898) a 60) ?_
      refine kx_st 0 (pc' := 6) (L' := [some (.ref 0), some (.int a), some (.int b), some (.int c)]) (st' := [.int (kx_b (0 ≤ a ∧ a ≤ 60))]) (h' := kv_wd g w) rfl ?_
      refine kx_be (t := 28) rfl rfl (fun (h6 : ¬ (0 ≤ a ∧ a ≤ 60)) => ?_) (fun (h6 : (0 ≤ a ∧ a ≤ 60)) => ?_)
      · refine kx_st 2 (pc' := 30) (L' := [some (.ref 0), some (.int a), some (.int b), some (.int c)]) (st' := [.int 1, .ref 0]) (h' := kv_wd g w) rfl ?_
        refine kx_call (z := 123) (as := [.ref 0, .int 1]) (rest := []) (v := some (.int (-1000000000 - nI 1))) (h1 := kv_wd (kv_up g 64 1 (g 64 1 + 1)) w) rfl (ev_error (d := 898) 1 (by decide) (by decide)) ?_
        refine kx_st 0 (pc' := 33) (L' := [some (.ref 0), some (.int a), some (.int b), some (.int c)]) (st' := [.int (-1000000000 - nI 1)]) (h' := kv_wd (kv_up g 64 1 (g 64 1 + 1)) w) rfl ?_
        refine kx_ret (v := some (.int (-1000000000 - nI 1))) rfl ?_
        refine ⟨_, _, _, rfl, rfl, ?_⟩
        refine kx_st 0 (pc' := 0) (L' := [some (.ref 65), some (.int a), some (.int b), some (.int c), none]) (st' := []) (h' := kv_wd (kv_up g 64 1 (g 64 1 + 1)) w) rfl ?_
        refine kx_st 3 (pc' := 4) (L' := [some (.ref 65), some (.int a), some (.int b), some (.int c), none]) (st' := [.int 60, .int 0, .int a]) (h' := kv_wd (kv_up g 64 1 (g 64 1 + 1)) w) rfl ?_
        refine kx_call (z := 130) (as := [.int a, .int 0, .int 60]) (rest := []) (v := some (.int (kx_b (0 ≤ a ∧ a ≤ 60)))) (h1 := kv_wd (kv_up g 64 1 (g 64 1 + 1)) w) rfl (ev_in (d := 898) a 0 60) ?_
        refine kx_st 0 (pc' := 7) (L' := [some (.ref 65), some (.int a), some (.int b), some (.int c), none]) (st' := [.int (kx_b (0 ≤ a ∧ a ≤ 60))]) (h' := kv_wd (kv_up g 64 1 (g 64 1 + 1)) w) rfl ?_
        refine kx_be (t := 27) rfl rfl (fun (m7 : ¬ (0 ≤ a ∧ a ≤ 60)) => ?_) (fun (m7 : (0 ≤ a ∧ a ≤ 60)) => ?_)
        · refine kx_st 2 (pc' := 30) (L' := [some (.ref 65), some (.int a), some (.int b), some (.int c), none]) (st' := [.int (-1000000001), .ref 65]) (h' := kv_wd (kv_up g 64 1 (g 64 1 + 1)) w) rfl ?_
          refine kx_call (z := 131) (as := [.ref 65, .int (-1000000001)]) (rest := []) (v := some (.int (-1000000001))) (h1 := kv_wd (kv_up (kv_up g 64 1 (g 64 1 + 1)) 70 1 ((kv_up g 64 1 (g 64 1 + 1)) 70 1 + 1)) w) rfl (ev_errs (d := 898) (-1000000001) 1 (by decide) (by decide)) ?_
          refine kx_st 0 (pc' := 33) (L' := [some (.ref 65), some (.int a), some (.int b), some (.int c), none]) (st' := [.int (-1000000001)]) (h' := kv_wd (kv_up (kv_up g 64 1 (g 64 1 + 1)) 70 1 ((kv_up g 64 1 (g 64 1 + 1)) 70 1 + 1)) w) rfl ?_
          refine kx_ret (v := some (.int (-1000000001))) rfl ?_
          exact ⟨rfl, _, _, rfl, kx_Rl_e hR⟩
        · exact absurd m7 h6
      · refine kx_st 0 (pc' := 9) (L' := [some (.ref 0), some (.int a), some (.int b), some (.int c)]) (st' := []) (h' := kv_wd g w) rfl ?_
        refine kx_st 3 (pc' := 14) (L' := [some (.ref 0), some (.int a), some (.int b), some (.int c)]) (st' := [.int b, .ref 1]) (h' := kv_wd g w) rfl ?_
        refine kx_call (z := 11) (as := [.ref 1, .int b]) (rest := []) (v := some (.int (kx_b (0 ≤ b ∧ b < nI s)))) (h1 := kv_wd g w) rfl (ev_isPersonS (d := 898) (g := g) (s := s) b1 b) ?_
        refine kx_st 0 (pc' := 17) (L' := [some (.ref 0), some (.int a), some (.int b), some (.int c)]) (st' := [.int (kx_b (0 ≤ b ∧ b < nI s))]) (h' := kv_wd g w) rfl ?_
        refine kx_be (t := 28) rfl rfl (fun (h17 : ¬ (0 ≤ b ∧ b < nI s)) => ?_) (fun (h17 : (0 ≤ b ∧ b < nI s)) => ?_)
        · refine kx_st 2 (pc' := 30) (L' := [some (.ref 0), some (.int a), some (.int b), some (.int c)]) (st' := [.int 1, .ref 0]) (h' := kv_wd g w) rfl ?_
          refine kx_call (z := 123) (as := [.ref 0, .int 1]) (rest := []) (v := some (.int (-1000000000 - nI 1))) (h1 := kv_wd (kv_up g 64 1 (g 64 1 + 1)) w) rfl (ev_error (d := 898) 1 (by decide) (by decide)) ?_
          refine kx_st 0 (pc' := 33) (L' := [some (.ref 0), some (.int a), some (.int b), some (.int c)]) (st' := [.int (-1000000000 - nI 1)]) (h' := kv_wd (kv_up g 64 1 (g 64 1 + 1)) w) rfl ?_
          refine kx_ret (v := some (.int (-1000000000 - nI 1))) rfl ?_
          refine ⟨_, _, _, rfl, rfl, ?_⟩
          refine kx_st 0 (pc' := 0) (L' := [some (.ref 65), some (.int a), some (.int b), some (.int c), none]) (st' := []) (h' := kv_wd (kv_up g 64 1 (g 64 1 + 1)) w) rfl ?_
          refine kx_st 3 (pc' := 4) (L' := [some (.ref 65), some (.int a), some (.int b), some (.int c), none]) (st' := [.int 60, .int 0, .int a]) (h' := kv_wd (kv_up g 64 1 (g 64 1 + 1)) w) rfl ?_
          refine kx_call (z := 130) (as := [.int a, .int 0, .int 60]) (rest := []) (v := some (.int (kx_b (0 ≤ a ∧ a ≤ 60)))) (h1 := kv_wd (kv_up g 64 1 (g 64 1 + 1)) w) rfl (ev_in (d := 898) a 0 60) ?_
          refine kx_st 0 (pc' := 7) (L' := [some (.ref 65), some (.int a), some (.int b), some (.int c), none]) (st' := [.int (kx_b (0 ≤ a ∧ a ≤ 60))]) (h' := kv_wd (kv_up g 64 1 (g 64 1 + 1)) w) rfl ?_
          refine kx_be (t := 27) rfl rfl (fun (m7 : ¬ (0 ≤ a ∧ a ≤ 60)) => ?_) (fun (m7 : (0 ≤ a ∧ a ≤ 60)) => ?_)
          · exact absurd h6 m7
          · refine kx_st 0 (pc' := 10) (L' := [some (.ref 65), some (.int a), some (.int b), some (.int c), none]) (st' := []) (h' := kv_wd (kv_up g 64 1 (g 64 1 + 1)) w) rfl ?_
            refine kx_st 2 (pc' := 12) (L' := [some (.ref 65), some (.int a), some (.int b), some (.int c), none]) (st' := [.int b, .ref 65]) (h' := kv_wd (kv_up g 64 1 (g 64 1 + 1)) w) rfl ?_
            refine kx_call (z := 138) (as := [.ref 65, .int b]) (rest := []) (v := some (.int (kx_b (0 ≤ b ∧ b < nI s)))) (h1 := kv_wd (kv_up g 64 1 (g 64 1 + 1)) w) rfl (ev_mPersonS (d := 897) (g := kv_up g 64 1 (g 64 1 + 1)) (s := s) b2 a2 b) ?_
            refine kx_st 0 (pc' := 15) (L' := [some (.ref 65), some (.int a), some (.int b), some (.int c), none]) (st' := [.int (kx_b (0 ≤ b ∧ b < nI s))]) (h' := kv_wd (kv_up g 64 1 (g 64 1 + 1)) w) rfl ?_
            refine kx_be (t := 27) rfl rfl (fun (m15 : ¬ (0 ≤ b ∧ b < nI s)) => ?_) (fun (m15 : (0 ≤ b ∧ b < nI s)) => ?_)
            · refine kx_st 2 (pc' := 30) (L' := [some (.ref 65), some (.int a), some (.int b), some (.int c), none]) (st' := [.int (-1000000001), .ref 65]) (h' := kv_wd (kv_up g 64 1 (g 64 1 + 1)) w) rfl ?_
              refine kx_call (z := 131) (as := [.ref 65, .int (-1000000001)]) (rest := []) (v := some (.int (-1000000001))) (h1 := kv_wd (kv_up (kv_up g 64 1 (g 64 1 + 1)) 70 1 ((kv_up g 64 1 (g 64 1 + 1)) 70 1 + 1)) w) rfl (ev_errs (d := 898) (-1000000001) 1 (by decide) (by decide)) ?_
              refine kx_st 0 (pc' := 33) (L' := [some (.ref 65), some (.int a), some (.int b), some (.int c), none]) (st' := [.int (-1000000001)]) (h' := kv_wd (kv_up (kv_up g 64 1 (g 64 1 + 1)) 70 1 ((kv_up g 64 1 (g 64 1 + 1)) 70 1 + 1)) w) rfl ?_
              refine kx_ret (v := some (.int (-1000000001))) rfl ?_
              exact ⟨rfl, _, _, rfl, kx_Rl_e hR⟩
            · exact absurd m15 hp
        · exact absurd h17 hp
  · refine kx_two (by decide) (Nat.le_of_ble_eq_true rfl) (by decide) (Nat.le_of_ble_eq_true rfl) ?_
    refine kx_st 0 (pc' := 0) (L' := [some (.ref 0), some (.int a), some (.int b), some (.int c)]) (st' := []) (h' := kv_wd g w) rfl ?_
    refine kx_st 2 (pc' := 3) (L' := [some (.ref 0), some (.int a), some (.int b), some (.int c)]) (st' := [.int 60, .int a]) (h' := kv_wd g w) rfl ?_
    refine kx_call (z := 124) (as := [.int a, .int 60]) (rest := []) (v := some (.int (kx_b (0 ≤ a ∧ a ≤ 60)))) (h1 := kv_wd g w) rfl (ev_within (d := 898) a 60) ?_
    refine kx_st 0 (pc' := 6) (L' := [some (.ref 0), some (.int a), some (.int b), some (.int c)]) (st' := [.int (kx_b (0 ≤ a ∧ a ≤ 60))]) (h' := kv_wd g w) rfl ?_
    refine kx_be (t := 28) rfl rfl (fun (h6 : ¬ (0 ≤ a ∧ a ≤ 60)) => ?_) (fun (h6 : (0 ≤ a ∧ a ≤ 60)) => ?_)
    · refine kx_st 2 (pc' := 30) (L' := [some (.ref 0), some (.int a), some (.int b), some (.int c)]) (st' := [.int 1, .ref 0]) (h' := kv_wd g w) rfl ?_
      refine kx_call (z := 123) (as := [.ref 0, .int 1]) (rest := []) (v := some (.int (-1000000000 - nI 1))) (h1 := kv_wd (kv_up g 64 1 (g 64 1 + 1)) w) rfl (ev_error (d := 898) 1 (by decide) (by decide)) ?_
      refine kx_st 0 (pc' := 33) (L' := [some (.ref 0), some (.int a), some (.int b), some (.int c)]) (st' := [.int (-1000000000 - nI 1)]) (h' := kv_wd (kv_up g 64 1 (g 64 1 + 1)) w) rfl ?_
      refine kx_ret (v := some (.int (-1000000000 - nI 1))) rfl ?_
      refine ⟨_, _, _, rfl, rfl, ?_⟩
      refine kx_st 0 (pc' := 0) (L' := [some (.ref 65), some (.int a), some (.int b), some (.int c), none]) (st' := []) (h' := kv_wd (kv_up g 64 1 (g 64 1 + 1)) w) rfl ?_
      refine kx_st 3 (pc' := 4) (L' := [some (.ref 65), some (.int a), some (.int b), some (.int c), none]) (st' := [.int 60, .int 0, .int a]) (h' := kv_wd (kv_up g 64 1 (g 64 1 + 1)) w) rfl ?_
      refine kx_call (z := 130) (as := [.int a, .int 0, .int 60]) (rest := []) (v := some (.int (kx_b (0 ≤ a ∧ a ≤ 60)))) (h1 := kv_wd (kv_up g 64 1 (g 64 1 + 1)) w) rfl (ev_in (d := 898) a 0 60) ?_
      refine kx_st 0 (pc' := 7) (L' := [some (.ref 65), some (.int a), some (.int b), some (.int c), none]) (st' := [.int (kx_b (0 ≤ a ∧ a ≤ 60))]) (h' := kv_wd (kv_up g 64 1 (g 64 1 + 1)) w) rfl ?_
      refine kx_be (t := 27) rfl rfl (fun (m7 : ¬ (0 ≤ a ∧ a ≤ 60)) => ?_) (fun (m7 : (0 ≤ a ∧ a ≤ 60)) => ?_)
      · refine kx_st 2 (pc' := 30) (L' := [some (.ref 65), some (.int a), some (.int b), some (.int c), none]) (st' := [.int (-1000000001), .ref 65]) (h' := kv_wd (kv_up g 64 1 (g 64 1 + 1)) w) rfl ?_
        refine kx_call (z := 131) (as := [.ref 65, .int (-1000000001)]) (rest := []) (v := some (.int (-1000000001))) (h1 := kv_wd (kv_up (kv_up g 64 1 (g 64 1 + 1)) 70 1 ((kv_up g 64 1 (g 64 1 + 1)) 70 1 + 1)) w) rfl (ev_errs (d := 898) (-1000000001) 1 (by decide) (by decide)) ?_
        refine kx_st 0 (pc' := 33) (L' := [some (.ref 65), some (.int a), some (.int b), some (.int c), none]) (st' := [.int (-1000000001)]) (h' := kv_wd (kv_up (kv_up g 64 1 (g 64 1 + 1)) 70 1 ((kv_up g 64 1 (g 64 1 + 1)) 70 1 + 1)) w) rfl ?_
        refine kx_ret (v := some (.int (-1000000001))) rfl ?_
        exact ⟨rfl, _, _, rfl, kx_Rl_e hR⟩
      · exact absurd m7 ha
    · exact absurd h6 ha
set_option maxRecDepth 100000 in
theorem lp_xyears {E : kv_V} {d : Nat} {w : kv_W} {F0 F1 : kx_FF} {s t m : Nat} {K : Nat → Nat → Int32} (n : Nat) (n60 : n ≤ 60) (q : kx_Q) (g : kv_S) (hX : kx_X F0 F1 s t m K g) {P : Option Value → kv_H → Prop} (hP : ∀ g1 : kv_S, (kx_hq (g1 3) (g1 4) (g1 2 2) (kx_yn F0 s t n q) ∧ (∀ b, b ≠ 8 → b ≠ 2 → b ≠ 3 → b ≠ 4 → g1 b = g b)) → kx_V E (d + 6) 93 68 [some (.ref 0), some (.int (nI n)), some (.int (nI n))] [] (kv_wd g1 w) P) : ∀ (nz i : Nat) (g1 : kv_S), i + nz = n → (kx_hq (g1 3) (g1 4) (g1 2 2) (kx_yn F0 s t i q) ∧ (∀ b, b ≠ 8 → b ≠ 2 → b ≠ 3 → b ≠ 4 → g1 b = g b)) → kx_V E (d + 6) 93 43 [some (.ref 0), some (.int (nI n)), some (.int (nI i))] [] (kv_wd g1 w) P := by
  intro nz
  induction nz with
  | zero =>
    intro i g1 hi h1
    have hkN : i = n := by omega
    refine kx_st 2 (pc' := 45) (L' := [some (.ref 0), some (.int (nI n)), some (.int (nI i))]) (st' := [.int (nI n), .int (nI i)]) (h' := kv_wd g1 w) rfl ?_
    refine kx_bi (t := 68) rfl rfl (fun (h45 : nI n ≤ nI i) => ?_) (fun (h45 : ¬ (nI n ≤ nI i)) => ?_)
    · subst hkN
      exact hP g1 h1
    · exact absurd (nI_le (a := n) (b := i) (by omega) (by omega)) h45
  | succ nz ih =>
    intro i g1 hi h1
    have hX1 : kx_X F0 F1 s t m K g1 := kx_X_cg (fun b hb => h1.2 b (by omega) (by omega) (by omega) (by omega)) hX
    refine kx_st 2 (pc' := 45) (L' := [some (.ref 0), some (.int (nI n)), some (.int (nI i))]) (st' := [.int (nI n), .int (nI i)]) (h' := kv_wd g1 w) rfl ?_
    refine kx_bi (t := 68) rfl rfl (fun (h45 : nI n ≤ nI i) => ?_) (fun (h45 : ¬ (nI n ≤ nI i)) => ?_)
    · exact absurd h45 (nI_ge (a := i) (b := n) (by omega) (by omega))
    · refine kx_st 0 (pc' := 48) (L' := [some (.ref 0), some (.int (nI n)), some (.int (nI i))]) (st' := []) (h' := kv_wd g1 w) rfl ?_
      refine kx_st 5 (pc' := 59) (L' := [some (.ref 0), some (.int (nI n)), some (.int (nI i))]) (st' := [.ref 1, .ref 2]) (h' := kv_wd g1 w) rfl ?_
      obtain ⟨g2, e59, k1, k2⟩ := ev_goAhead2 (E := E) (d := d) (w := w) hX1 _ h1.1
      refine kx_call (z := 7) (as := [.ref 2, .ref 1]) (rest := []) (v := none) (h1 := kv_wd g2 w) rfl e59 ?_
      refine kx_st 0 (pc' := 62) (L' := [some (.ref 0), some (.int (nI n)), some (.int (nI i))]) (st' := []) (h' := kv_wd g2 w) rfl ?_
      refine kx_st 2 (pc' := 43) (L' := [some (.ref 0), some (.int (nI n)), some (.int ((nI i) + 1))]) (st' := []) (h' := kv_wd g2 w) rfl ?_
      rw [← nI_succ]
      exact ih (i + 1) g2 (by omega) ⟨k1, fun b b1 b2 b3 b4 => (k2 b b1 b2 b3 b4).trans (h1.2 b b1 b2 b3 b4)⟩
theorem kx_H2t {g : kv_S} {w : kv_W} {i : Nat} (h : kx_Rl kx_L g w i) {p : Nat} (hp : p < 6) : g 66 (20 + p) = 0 ∨ g 66 (20 + p) = 1 := (h.2.2.1.2.1 p hp).2.1
theorem kx_yle {y n : Nat} (hy : y ≤ 999) (hn : n ≤ 60) : (nI y + nI n ≤ 999) ↔ y + n ≤ 999 := by
  rw [kx_nadd, show (999 : Int32) = nI 999 from rfl]
  exact nI_leI (by omega) (by omega)
theorem kx_1n {a : Int32} {N : Nat} (h : 1 ≤ a ∧ a ≤ nI N) (hN : N < 1000) : ∃ n, 1 ≤ n ∧ n ≤ N ∧ a = nI n := by
  have h0 : 0 ≤ a := by
    rw [Int32.le_iff_toInt_le] at *
    have : (0 : Int32).toInt = 0 := rfl
    have h1 : (1 : Int32).toInt = 1 := rfl
    omega
  obtain ⟨n, hn, rfl⟩ := kx_nIof h0 h.2 (by omega)
  refine ⟨n, ?_, hn, rfl⟩
  have := h.1
  rw [show (1 : Int32) = nI 1 from rfl, nI_leI (by omega) (by omega)] at this
  exact this
set_option maxRecDepth 100000 in
theorem pr_years {E : kv_V} (a : Int32) : kx_ok2 E (kx_Rl kx_L) 93 181 [.int a] := by
  intro g w i hR hi
  obtain ⟨F0, F1, s, t, m, hF0, hF1, hX, hM, hKB⟩ := kx_Rl_XM hR
  obtain ⟨q0, hq0, hm0, hb0, hy0⟩ := kx_Rl_q hR
  have q := hR.1
  have b1 := hX.2.1.1
  have b2 := hM.2.1.1
  have a1 := hX.1.1
  have a2 := hX.1.2.1
  have a4 := hX.1.2.2.2
  have d1 := hX.2.1.2.2
  have d2 := hM.2.1.2
  by_cases ha : 1 ≤ a ∧ a ≤ 60
  · obtain ⟨n, hn1, hn60, rfl⟩ := kx_1n (N := 60) ha (by omega)
    by_cases hy : q0.2.2 + n ≤ 999
    · refine kx_two (by decide) (Nat.le_of_ble_eq_true rfl) (by decide) (Nat.le_of_ble_eq_true rfl) ?_
      refine kx_st 0 (pc' := 0) (L' := [some (.ref 0), some (.int (nI n)), none]) (st' := []) (h' := kv_wd g w) rfl ?_
      refine kx_st 2 (pc' := 2) (L' := [some (.ref 0), some (.int (nI n)), none]) (st' := [.int 1, .int (nI n)]) (h' := kv_wd g w) rfl ?_
      refine kx_bi (t := 11) rfl rfl (fun (h2 : nI n < 1) => ?_) (fun (h2 : ¬ (nI n < 1)) => ?_)
      · exact absurd h2 (Int32.not_lt.mpr ha.1)
      · refine kx_st 0 (pc' := 5) (L' := [some (.ref 0), some (.int (nI n)), none]) (st' := []) (h' := kv_wd g w) rfl ?_
        refine kx_st 2 (pc' := 8) (L' := [some (.ref 0), some (.int (nI n)), none]) (st' := [.int 60, .int (nI n)]) (h' := kv_wd g w) rfl ?_
        refine kx_bi (t := 17) rfl rfl (fun (h8 : nI n ≤ 60) => ?_) (fun (h8 : ¬ (nI n ≤ 60)) => ?_)
        · refine kx_st 7 (pc' := 32) (L' := [some (.ref 0), some (.int (nI n)), none]) (st' := [.int 999, .int ((g 2 2) + (nI n))]) (h' := kv_wd g w) rfl ?_
          refine kx_bi (t := 41) rfl rfl (fun (h32 : (g 2 2) + (nI n) ≤ 999) => ?_) (fun (h32 : ¬ ((g 2 2) + (nI n) ≤ 999)) => ?_)
          · refine kx_st 2 (pc' := 43) (L' := [some (.ref 0), some (.int (nI n)), some (.int 0)]) (st' := []) (h' := kv_wd g w) rfl ?_
            refine lp_xyears (d := 893) n hn60 q0 g hX (fun g43 r43 => ?_) n 0 g (by omega) ⟨hq0, fun _ _ _ _ _ => rfl⟩
            refine kx_st 0 (pc' := 68) (L' := [some (.ref 0), some (.int (nI n)), some (.int (nI n))]) (st' := []) (h' := kv_wd g43 w) rfl ?_
            refine kx_st 6 (pc' := 82) (L' := [some (.ref 0), some (.int (nI n)), some (.int (nI n))]) (st' := [.int (g43 1 0), .ref 2]) (h' := kv_wd g43 w) rfl ?_
            refine kx_call (z := 6) (as := [.ref 2, .int (g43 1 0)]) (rest := []) (v := some (.int (kx_sum (fun j => g43 3 j + g43 4 j) s))) (h1 := kv_wd g43 w) rfl (by rw [r43.2 1 (by omega) (by omega) (by omega) (by omega), b1]; exact ev_together (d := 898) (g := g43) kv_hd2 s a2) ?_
            refine kx_st 0 (pc' := 85) (L' := [some (.ref 0), some (.int (nI n)), some (.int (nI n))]) (st' := [.int (kx_sum (fun j => g43 3 j + g43 4 j) s)]) (h' := kv_wd g43 w) rfl ?_
            refine kx_ret (v := some (.int (kx_sum (fun j => g43 3 j + g43 4 j) s))) rfl ?_
            refine ⟨_, _, _, rfl, rfl, ?_⟩
            refine kx_st 0 (pc' := 0) (L' := [some (.ref 65), some (.int (nI n))]) (st' := []) (h' := kv_wd g43 w) rfl ?_
            refine kx_st 3 (pc' := 4) (L' := [some (.ref 65), some (.int (nI n))]) (st' := [.int 60, .int 1, .int (nI n)]) (h' := kv_wd g43 w) rfl ?_
            refine kx_call (z := 130) (as := [.int (nI n), .int 1, .int 60]) (rest := []) (v := some (.int (kx_b (1 ≤ nI n ∧ nI n ≤ 60)))) (h1 := kv_wd g43 w) rfl (ev_in (d := 898) (nI n) 1 60) ?_
            refine kx_st 0 (pc' := 7) (L' := [some (.ref 65), some (.int (nI n))]) (st' := [.int (kx_b (1 ≤ nI n ∧ nI n ≤ 60))]) (h' := kv_wd g43 w) rfl ?_
            refine kx_bn (t := 17) rfl rfl (fun (m7 : (1 ≤ nI n ∧ nI n ≤ 60)) => ?_) (fun (m7 : ¬ (1 ≤ nI n ∧ nI n ≤ 60)) => ?_)
            · refine kx_st 3 (pc' := 22) (L' := [some (.ref 65), some (.int (nI n))]) (st' := [.int 0, .ref 66]) (h' := kv_wd g43 w) rfl ?_
              refine kx_ia (k := 0) rfl rfl (by decide) rfl (by decide) (by decide) ?_
              refine kx_st 3 (pc' := 28) (L' := [some (.ref 65), some (.int (nI n))]) (st' := [.int 999, .int ((g43 66 0) + (nI n))]) (h' := kv_wd g43 w) rfl ?_
              refine kx_bi (t := 38) rfl rfl (fun (m28 : (g43 66 0) + (nI n) ≤ 999) => ?_) (fun (m28 : ¬ ((g43 66 0) + (nI n) ≤ 999)) => ?_)
              · refine kx_st 2 (pc' := 40) (L' := [some (.ref 65), some (.int (nI n))]) (st' := [.int (nI n), .ref 65]) (h' := kv_wd g43 w) rfl ?_
                obtain ⟨g40, e40, q40, x40, y40, z40⟩ := ev_passes (E := E) (d := 797) (g := g43) (w := w) (by rw [(r43.2 66 (by omega) (by omega) (by omega) (by omega))]; exact hM) q0 (by rw [(r43.2 66 (by omega) (by omega) (by omega) (by omega))]; exact hm0) n hn60
                refine kx_call (z := 179) (as := [.ref 65, .int (nI n)]) (rest := []) (v := none) (h1 := kv_wd g40 w) rfl e40 ?_
                refine kx_st 0 (pc' := 43) (L' := [some (.ref 65), some (.int (nI n))]) (st' := []) (h' := kv_wd g40 w) rfl ?_
                refine kx_st 1 (pc' := 44) (L' := [some (.ref 65), some (.int (nI n))]) (st' := [.ref 65]) (h' := kv_wd g40 w) rfl ?_
                refine kx_call (z := 180) (as := [.ref 65]) (rest := []) (v := some (.int (kx_sum (fun j => g40 66 (8 + j) + g40 66 (14 + j)) s))) (h1 := kv_wd g40 w) rfl (ev_hands (d := 897) (g := g40) s a2 (by rw [x40 3 (by omega) (by omega), (r43.2 66 (by omega) (by omega) (by omega) (by omega))]; exact b2)) ?_
                refine kx_st 0 (pc' := 47) (L' := [some (.ref 65), some (.int (nI n))]) (st' := [.int (kx_sum (fun j => g40 66 (8 + j) + g40 66 (14 + j)) s)]) (h' := kv_wd g40 w) rfl ?_
                refine kx_ret (v := some (.int (kx_sum (fun j => g40 66 (8 + j) + g40 66 (14 + j)) s))) rfl ?_
                have ea : kx_sum (fun j => g40 66 (8 + j) + g40 66 (14 + j)) s = kx_sum (fun j => g43 3 j + g43 4 j) s := kx_sum_congr (fun j hj => by rw [show g40 66 (8 + j) = _ from (q40.1 j (by omega)).1, show g40 66 (14 + j) = _ from (q40.1 j (by omega)).2, (r43.1.1 j (by omega)).1, (r43.1.1 j (by omega)).2])
                have f66 : ∀ j, 0 < j → (j < 8 ∨ 20 ≤ j) → g40 66 j = g 66 j := fun j j0 hj => (x40 j j0 hj).trans (congrFun (r43.2 66 (by omega) (by omega) (by omega) (by omega)) j)
                have f : ∀ b, b ≠ 8 → b ≠ 2 → b ≠ 3 → b ≠ 4 → b ≠ 65 → b ≠ 66 → g40 b = g b := fun b b1 b2 b3 b4 b5 b6 => (y40 b b5 b6).trans (r43.2 b b1 b2 b3 b4)
                refine ⟨by rw [ea], _, _, rfl, kx_Rl_gen hR rfl (kx_yn F0 s t n q0) (by rw [y40 3 (by omega) (by omega), y40 4 (by omega) (by omega), y40 2 (by omega) (by omega)]; exact r43.1) q40 (kx_qb_n hF0 hb0 n) (by rw [kx_yn_y]; exact hy) b1 a2 hX.1.2.2.1 (by rw [f 1 (by omega) (by omega) (by omega) (by omega) (by omega) (by omega)]; exact hX.2.1.2.1) (fun p hp => by rw [f66 _ (by omega) (by omega)]; exact hM.2.2.1 p hp) (fun p hp => by rw [f66 _ (by omega) (by omega)]; exact kx_H2t hR hp) (by rw [f 1 (by omega) (by omega) (by omega) (by omega) (by omega) (by omega), f66 1 (by omega) (by omega)]; exact hR.2.2.1.2.2.2.2.2.1) (fun k _ _ => by rw [f 1 (by omega) (by omega) (by omega) (by omega) (by omega) (by omega)]) (fun b b1 b2 b3 b4 b8 b11 b44 b65 b66 b68 b69 => f b b8 b2 b3 b4 b65 b66) (fun k hk => (z40 k hk).trans (congrFun (r43.2 65 (by omega) (by omega) (by omega) (by omega)) k)) (fun j j1 hj _ => f66 j (by omega) (by omega))⟩
              · exact absurd (by rw [(r43.2 66 (by omega) (by omega) (by omega) (by omega)), show g 66 0 = _ from hm0.2]; exact (kx_yle hy0 hn60).mpr hy) m28
            · exact absurd ha m7
          · exact absurd (by rw [show g 2 2 = _ from hq0.2]; exact (kx_yle hy0 hn60).mpr hy) h32
        · exact absurd ha.2 h8
    · refine kx_two (by decide) (Nat.le_of_ble_eq_true rfl) (by decide) (Nat.le_of_ble_eq_true rfl) ?_
      refine kx_st 0 (pc' := 0) (L' := [some (.ref 0), some (.int (nI n)), none]) (st' := []) (h' := kv_wd g w) rfl ?_
      refine kx_st 2 (pc' := 2) (L' := [some (.ref 0), some (.int (nI n)), none]) (st' := [.int 1, .int (nI n)]) (h' := kv_wd g w) rfl ?_
      refine kx_bi (t := 11) rfl rfl (fun (h2 : nI n < 1) => ?_) (fun (h2 : ¬ (nI n < 1)) => ?_)
      · exact absurd h2 (Int32.not_lt.mpr ha.1)
      · refine kx_st 0 (pc' := 5) (L' := [some (.ref 0), some (.int (nI n)), none]) (st' := []) (h' := kv_wd g w) rfl ?_
        refine kx_st 2 (pc' := 8) (L' := [some (.ref 0), some (.int (nI n)), none]) (st' := [.int 60, .int (nI n)]) (h' := kv_wd g w) rfl ?_
        refine kx_bi (t := 17) rfl rfl (fun (h8 : nI n ≤ 60) => ?_) (fun (h8 : ¬ (nI n ≤ 60)) => ?_)
        · refine kx_st 7 (pc' := 32) (L' := [some (.ref 0), some (.int (nI n)), none]) (st' := [.int 999, .int ((g 2 2) + (nI n))]) (h' := kv_wd g w) rfl ?_
          refine kx_bi (t := 41) rfl rfl (fun (h32 : (g 2 2) + (nI n) ≤ 999) => ?_) (fun (h32 : ¬ ((g 2 2) + (nI n) ≤ 999)) => ?_)
          · exact absurd ((kx_yle hy0 hn60).mp (by rw [show g 2 2 = _ from hq0.2] at h32; exact h32)) hy
          · refine kx_st 0 (pc' := 35) (L' := [some (.ref 0), some (.int (nI n)), none]) (st' := []) (h' := kv_wd g w) rfl ?_
            refine kx_st 2 (pc' := 37) (L' := [some (.ref 0), some (.int (nI n)), none]) (st' := [.int 3, .ref 0]) (h' := kv_wd g w) rfl ?_
            refine kx_call (z := 123) (as := [.ref 0, .int 3]) (rest := []) (v := some (.int (-1000000000 - nI 3))) (h1 := kv_wd (kv_up g 64 3 (g 64 3 + 1)) w) rfl (ev_error (d := 898) 3 (by decide) (by decide)) ?_
            refine kx_st 0 (pc' := 40) (L' := [some (.ref 0), some (.int (nI n)), none]) (st' := [.int (-1000000000 - nI 3)]) (h' := kv_wd (kv_up g 64 3 (g 64 3 + 1)) w) rfl ?_
            refine kx_ret (v := some (.int (-1000000000 - nI 3))) rfl ?_
            refine ⟨_, _, _, rfl, rfl, ?_⟩
            refine kx_st 0 (pc' := 0) (L' := [some (.ref 65), some (.int (nI n))]) (st' := []) (h' := kv_wd (kv_up g 64 3 (g 64 3 + 1)) w) rfl ?_
            refine kx_st 3 (pc' := 4) (L' := [some (.ref 65), some (.int (nI n))]) (st' := [.int 60, .int 1, .int (nI n)]) (h' := kv_wd (kv_up g 64 3 (g 64 3 + 1)) w) rfl ?_
            refine kx_call (z := 130) (as := [.int (nI n), .int 1, .int 60]) (rest := []) (v := some (.int (kx_b (1 ≤ nI n ∧ nI n ≤ 60)))) (h1 := kv_wd (kv_up g 64 3 (g 64 3 + 1)) w) rfl (ev_in (d := 898) (nI n) 1 60) ?_
            refine kx_st 0 (pc' := 7) (L' := [some (.ref 65), some (.int (nI n))]) (st' := [.int (kx_b (1 ≤ nI n ∧ nI n ≤ 60))]) (h' := kv_wd (kv_up g 64 3 (g 64 3 + 1)) w) rfl ?_
            refine kx_bn (t := 17) rfl rfl (fun (m7 : (1 ≤ nI n ∧ nI n ≤ 60)) => ?_) (fun (m7 : ¬ (1 ≤ nI n ∧ nI n ≤ 60)) => ?_)
            · refine kx_st 3 (pc' := 22) (L' := [some (.ref 65), some (.int (nI n))]) (st' := [.int 0, .ref 66]) (h' := kv_wd (kv_up g 64 3 (g 64 3 + 1)) w) rfl ?_
              refine kx_ia (k := 0) rfl rfl (by decide) rfl (by decide) (by decide) ?_
              refine kx_st 3 (pc' := 28) (L' := [some (.ref 65), some (.int (nI n))]) (st' := [.int 999, .int (((kv_up g 64 3 (g 64 3 + 1)) 66 0) + (nI n))]) (h' := kv_wd (kv_up g 64 3 (g 64 3 + 1)) w) rfl ?_
              refine kx_bi (t := 38) rfl rfl (fun (m28 : ((kv_up g 64 3 (g 64 3 + 1)) 66 0) + (nI n) ≤ 999) => ?_) (fun (m28 : ¬ (((kv_up g 64 3 (g 64 3 + 1)) 66 0) + (nI n) ≤ 999)) => ?_)
              · exact absurd ((kx_yle hy0 hn60).mp (by have z := hm0.2; have z2 : g 66 0 + nI n ≤ 999 := m28; rw [show g 66 0 = _ from z] at z2; exact z2)) hy
              · refine kx_st 0 (pc' := 31) (L' := [some (.ref 65), some (.int (nI n))]) (st' := []) (h' := kv_wd (kv_up g 64 3 (g 64 3 + 1)) w) rfl ?_
                refine kx_st 2 (pc' := 34) (L' := [some (.ref 65), some (.int (nI n))]) (st' := [.int (-1000000003), .ref 65]) (h' := kv_wd (kv_up g 64 3 (g 64 3 + 1)) w) rfl ?_
                refine kx_call (z := 131) (as := [.ref 65, .int (-1000000003)]) (rest := []) (v := some (.int (-1000000003))) (h1 := kv_wd (kv_up (kv_up g 64 3 (g 64 3 + 1)) 70 3 ((kv_up g 64 3 (g 64 3 + 1)) 70 3 + 1)) w) rfl (ev_errs (d := 898) (-1000000003) 3 (by decide) (by decide)) ?_
                refine kx_st 0 (pc' := 37) (L' := [some (.ref 65), some (.int (nI n))]) (st' := [.int (-1000000003)]) (h' := kv_wd (kv_up (kv_up g 64 3 (g 64 3 + 1)) 70 3 ((kv_up g 64 3 (g 64 3 + 1)) 70 3 + 1)) w) rfl ?_
                refine kx_ret (v := some (.int (-1000000003))) rfl ?_
                exact ⟨rfl, _, _, rfl, kx_Rl_e hR⟩
            · exact absurd ha m7
        · exact absurd ha.2 h8
  · refine kx_two (by decide) (Nat.le_of_ble_eq_true rfl) (by decide) (Nat.le_of_ble_eq_true rfl) ?_
    refine kx_st 0 (pc' := 0) (L' := [some (.ref 0), some (.int a), none]) (st' := []) (h' := kv_wd g w) rfl ?_
    refine kx_st 2 (pc' := 2) (L' := [some (.ref 0), some (.int a), none]) (st' := [.int 1, .int a]) (h' := kv_wd g w) rfl ?_
    refine kx_bi (t := 11) rfl rfl (fun (h2 : a < 1) => ?_) (fun (h2 : ¬ (a < 1)) => ?_)
    · refine kx_st 2 (pc' := 13) (L' := [some (.ref 0), some (.int a), none]) (st' := [.int 1, .ref 0]) (h' := kv_wd g w) rfl ?_
      refine kx_call (z := 123) (as := [.ref 0, .int 1]) (rest := []) (v := some (.int (-1000000000 - nI 1))) (h1 := kv_wd (kv_up g 64 1 (g 64 1 + 1)) w) rfl (ev_error (d := 898) 1 (by decide) (by decide)) ?_
      refine kx_st 0 (pc' := 16) (L' := [some (.ref 0), some (.int a), none]) (st' := [.int (-1000000000 - nI 1)]) (h' := kv_wd (kv_up g 64 1 (g 64 1 + 1)) w) rfl ?_
      refine kx_ret (v := some (.int (-1000000000 - nI 1))) rfl ?_
      refine ⟨_, _, _, rfl, rfl, ?_⟩
      refine kx_st 0 (pc' := 0) (L' := [some (.ref 65), some (.int a)]) (st' := []) (h' := kv_wd (kv_up g 64 1 (g 64 1 + 1)) w) rfl ?_
      refine kx_st 3 (pc' := 4) (L' := [some (.ref 65), some (.int a)]) (st' := [.int 60, .int 1, .int a]) (h' := kv_wd (kv_up g 64 1 (g 64 1 + 1)) w) rfl ?_
      refine kx_call (z := 130) (as := [.int a, .int 1, .int 60]) (rest := []) (v := some (.int (kx_b (1 ≤ a ∧ a ≤ 60)))) (h1 := kv_wd (kv_up g 64 1 (g 64 1 + 1)) w) rfl (ev_in (d := 898) a 1 60) ?_
      refine kx_st 0 (pc' := 7) (L' := [some (.ref 65), some (.int a)]) (st' := [.int (kx_b (1 ≤ a ∧ a ≤ 60))]) (h' := kv_wd (kv_up g 64 1 (g 64 1 + 1)) w) rfl ?_
      refine kx_bn (t := 17) rfl rfl (fun (m7 : (1 ≤ a ∧ a ≤ 60)) => ?_) (fun (m7 : ¬ (1 ≤ a ∧ a ≤ 60)) => ?_)
      · exact absurd m7 ha
      · refine kx_st 0 (pc' := 10) (L' := [some (.ref 65), some (.int a)]) (st' := []) (h' := kv_wd (kv_up g 64 1 (g 64 1 + 1)) w) rfl ?_
        refine kx_st 2 (pc' := 13) (L' := [some (.ref 65), some (.int a)]) (st' := [.int (-1000000001), .ref 65]) (h' := kv_wd (kv_up g 64 1 (g 64 1 + 1)) w) rfl ?_
        refine kx_call (z := 131) (as := [.ref 65, .int (-1000000001)]) (rest := []) (v := some (.int (-1000000001))) (h1 := kv_wd (kv_up (kv_up g 64 1 (g 64 1 + 1)) 70 1 ((kv_up g 64 1 (g 64 1 + 1)) 70 1 + 1)) w) rfl (ev_errs (d := 898) (-1000000001) 1 (by decide) (by decide)) ?_
        refine kx_st 0 (pc' := 16) (L' := [some (.ref 65), some (.int a)]) (st' := [.int (-1000000001)]) (h' := kv_wd (kv_up (kv_up g 64 1 (g 64 1 + 1)) 70 1 ((kv_up g 64 1 (g 64 1 + 1)) 70 1 + 1)) w) rfl ?_
        refine kx_ret (v := some (.int (-1000000001))) rfl ?_
        exact ⟨rfl, _, _, rfl, kx_Rl_e hR⟩
    · refine kx_st 0 (pc' := 5) (L' := [some (.ref 0), some (.int a), none]) (st' := []) (h' := kv_wd g w) rfl ?_
      refine kx_st 2 (pc' := 8) (L' := [some (.ref 0), some (.int a), none]) (st' := [.int 60, .int a]) (h' := kv_wd g w) rfl ?_
      refine kx_bi (t := 17) rfl rfl (fun (h8 : a ≤ 60) => ?_) (fun (h8 : ¬ (a ≤ 60)) => ?_)
      · exact absurd ⟨Int32.not_lt.mp h2, h8⟩ ha
      · refine kx_st 0 (pc' := 11) (L' := [some (.ref 0), some (.int a), none]) (st' := []) (h' := kv_wd g w) rfl ?_
        refine kx_st 2 (pc' := 13) (L' := [some (.ref 0), some (.int a), none]) (st' := [.int 1, .ref 0]) (h' := kv_wd g w) rfl ?_
        refine kx_call (z := 123) (as := [.ref 0, .int 1]) (rest := []) (v := some (.int (-1000000000 - nI 1))) (h1 := kv_wd (kv_up g 64 1 (g 64 1 + 1)) w) rfl (ev_error (d := 898) 1 (by decide) (by decide)) ?_
        refine kx_st 0 (pc' := 16) (L' := [some (.ref 0), some (.int a), none]) (st' := [.int (-1000000000 - nI 1)]) (h' := kv_wd (kv_up g 64 1 (g 64 1 + 1)) w) rfl ?_
        refine kx_ret (v := some (.int (-1000000000 - nI 1))) rfl ?_
        refine ⟨_, _, _, rfl, rfl, ?_⟩
        refine kx_st 0 (pc' := 0) (L' := [some (.ref 65), some (.int a)]) (st' := []) (h' := kv_wd (kv_up g 64 1 (g 64 1 + 1)) w) rfl ?_
        refine kx_st 3 (pc' := 4) (L' := [some (.ref 65), some (.int a)]) (st' := [.int 60, .int 1, .int a]) (h' := kv_wd (kv_up g 64 1 (g 64 1 + 1)) w) rfl ?_
        refine kx_call (z := 130) (as := [.int a, .int 1, .int 60]) (rest := []) (v := some (.int (kx_b (1 ≤ a ∧ a ≤ 60)))) (h1 := kv_wd (kv_up g 64 1 (g 64 1 + 1)) w) rfl (ev_in (d := 898) a 1 60) ?_
        refine kx_st 0 (pc' := 7) (L' := [some (.ref 65), some (.int a)]) (st' := [.int (kx_b (1 ≤ a ∧ a ≤ 60))]) (h' := kv_wd (kv_up g 64 1 (g 64 1 + 1)) w) rfl ?_
        refine kx_bn (t := 17) rfl rfl (fun (m7 : (1 ≤ a ∧ a ≤ 60)) => ?_) (fun (m7 : ¬ (1 ≤ a ∧ a ≤ 60)) => ?_)
        · exact absurd m7 ha
        · refine kx_st 0 (pc' := 10) (L' := [some (.ref 65), some (.int a)]) (st' := []) (h' := kv_wd (kv_up g 64 1 (g 64 1 + 1)) w) rfl ?_
          refine kx_st 2 (pc' := 13) (L' := [some (.ref 65), some (.int a)]) (st' := [.int (-1000000001), .ref 65]) (h' := kv_wd (kv_up g 64 1 (g 64 1 + 1)) w) rfl ?_
          refine kx_call (z := 131) (as := [.ref 65, .int (-1000000001)]) (rest := []) (v := some (.int (-1000000001))) (h1 := kv_wd (kv_up (kv_up g 64 1 (g 64 1 + 1)) 70 1 ((kv_up g 64 1 (g 64 1 + 1)) 70 1 + 1)) w) rfl (ev_errs (d := 898) (-1000000001) 1 (by decide) (by decide)) ?_
          refine kx_st 0 (pc' := 16) (L' := [some (.ref 65), some (.int a)]) (st' := [.int (-1000000001)]) (h' := kv_wd (kv_up (kv_up g 64 1 (g 64 1 + 1)) 70 1 ((kv_up g 64 1 (g 64 1 + 1)) 70 1 + 1)) w) rfl ?_
          refine kx_ret (v := some (.int (-1000000001))) rfl ?_
          exact ⟨rfl, _, _, rfl, kx_Rl_e hR⟩
