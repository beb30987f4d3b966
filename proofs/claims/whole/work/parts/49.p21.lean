/-! PAIRS: can, pair, last, waitFor, odds -/
theorem kx_Rl_XMK {g : kv_S} {w : kv_W} {i : Nat} (h : kx_Rl kx_L g w i) : ∃ (F0 F1 : kx_FF) (s t m : Nat) (K : Nat → Nat → Int32), kx_LF 0 F0 ∧ kx_LF 1 F1 ∧ kx_X F0 F1 s t m K g ∧ kx_M F0 F1 s t m K (g 66) ∧ (∀ k, k < m → kx_K s k (K k) (K k)) ∧ ∀ k c, K k c = g 66 (26 + 9 * k + c) := by
  obtain ⟨F0, F1, s, t, m, h1, h2, h3, h4, h5⟩ := kx_Rl_XM h
  exact ⟨F0, F1, s, t, m, _, h1, h2, h3, h4, h5, fun _ _ => rfl⟩
set_option maxRecDepth 100000 in
theorem pr_can {E : kv_V} (a b c : Int32) : kx_ok2 E (kx_Rl kx_L) 97 177 [.int a, .int b, .int c] := by
  intro g w i hR hi
  obtain ⟨F0, F1, s, t, m, K, hF0, hF1, hX, hM, hKB, hKe⟩ := kx_Rl_XMK hR
  obtain ⟨q0, hq0, hm0, hb0, hy0⟩ := kx_Rl_q hR
  have q := hR.1
  have b1 := hX.2.1.1
  have b2 := hM.2.1.1
  have a1 := hX.1.1
  have a2 := hX.1.2.1
  have a4 := hX.1.2.2.2
  have d1 := hX.2.1.2.2
  have d2 := hM.2.1.2
  by_cases hv : 0 ≤ a ∧ a < nI m
  · obtain ⟨k, hkm, rfl⟩ := kx_nIlt hv.1 hv.2 (by omega)
    have hk8 : k < 8 := by omega
    have hK := hKB k hkm
    have kk : ∀ c, c < 9 → g (14 + k) c = K k c := hX.2.2.2.2 k hkm
    by_cases hp : kx_pr s b
    · by_cases hc : 0 ≤ c ∧ c ≤ 1
      · obtain ⟨x, y, hx, hy, hxy, e10, e11, -⟩ := kx_pr_of a2 hp
        rcases kx_b1 hc with rfl | rfl
        · refine kx_two (by decide) (Nat.le_of_ble_eq_true rfl) (by decide) (Nat.le_of_ble_eq_true rfl) ?_
          refine kx_st 0 (pc' := 0) (L' := [some (.ref 0), some (.int (nI k)), some (.int b), some (.int 0), none]) (st' := []) (h' := kv_wd g w) rfl ?_
          refine kx_st 3 (pc' := 5) (L' := [some (.ref 0), some (.int (nI k)), some (.int b), some (.int 0), none]) (st' := [.int (nI k), .ref 1]) (h' := kv_wd g w) rfl ?_
          refine kx_call (z := 17) (as := [.ref 1, .int (nI k)]) (rest := []) (v := some (.ref (14 + k))) (h1 := kv_wd g w) rfl (ev_knotAt (d := 898) (g := g) q k hk8 (by rw [d1]; exact nI_lt hkm (by omega))) ?_
          refine kx_st 0 (pc' := 8) (L' := [some (.ref 0), some (.int (nI k)), some (.int b), some (.int 0), none]) (st' := [.ref (14 + k)]) (h' := kv_wd g w) rfl ?_
          refine kx_st 2 (pc' := 12) (L' := [some (.ref 0), some (.int (nI k)), some (.int b), some (.int 0), some (.ref (14 + k))]) (st' := [.ref (14 + k)]) (h' := kv_wd g w) rfl ?_
          refine kx_st 1 (pc' := 15) (L' := [some (.ref 0), some (.int (nI k)), some (.int b), some (.int 0), some (.ref (14 + k))]) (st' := []) (h' := kv_wd g w) rfl ?_
          refine kx_st 3 (pc' := 20) (L' := [some (.ref 0), some (.int (nI k)), some (.int b), some (.int 0), some (.ref (14 + k))]) (st' := [.int b, .ref 1]) (h' := kv_wd g w) rfl ?_
          refine kx_call (z := 12) (as := [.ref 1, .int b]) (rest := []) (v := some (.int (kx_b (kx_pr s b)))) (h1 := kv_wd g w) rfl (ev_isPairS (d := 897) (g := g) (s := s) b1 a2 b) ?_
          refine kx_st 0 (pc' := 23) (L' := [some (.ref 0), some (.int (nI k)), some (.int b), some (.int 0), some (.ref (14 + k))]) (st' := [.int (kx_b (kx_pr s b))]) (h' := kv_wd g w) rfl ?_
          refine kx_be (t := 34) rfl rfl (fun (h23 : ¬ (kx_pr s b)) => ?_) (fun (h23 : (kx_pr s b)) => ?_)
          · exact absurd hp h23
          · refine kx_st 0 (pc' := 26) (L' := [some (.ref 0), some (.int (nI k)), some (.int b), some (.int 0), some (.ref (14 + k))]) (st' := []) (h' := kv_wd g w) rfl ?_
            refine kx_st 2 (pc' := 28) (L' := [some (.ref 0), some (.int (nI k)), some (.int b), some (.int 0), some (.ref (14 + k))]) (st' := [.int 1, .int 0]) (h' := kv_wd g w) rfl ?_
            refine kx_call (z := 124) (as := [.int 0, .int 1]) (rest := []) (v := some (.int (kx_b (0 ≤ (0 : Int32) ∧ (0 : Int32) ≤ 1)))) (h1 := kv_wd g w) rfl (ev_within (d := 898) 0 1) ?_
            refine kx_st 0 (pc' := 31) (L' := [some (.ref 0), some (.int (nI k)), some (.int b), some (.int 0), some (.ref (14 + k))]) (st' := [.int (kx_b (0 ≤ (0 : Int32) ∧ (0 : Int32) ≤ 1))]) (h' := kv_wd g w) rfl ?_
            refine kx_bn (t := 40) rfl rfl (fun (h31 : (0 ≤ (0 : Int32) ∧ (0 : Int32) ≤ 1)) => ?_) (fun (h31 : ¬ (0 ≤ (0 : Int32) ∧ (0 : Int32) ≤ 1)) => ?_)
            · refine kx_st 1 (pc' := 41) (L' := [some (.ref 0), some (.int (nI k)), some (.int b), some (.int 0), some (.ref (14 + k))]) (st' := [.int 0]) (h' := kv_wd g w) rfl ?_
              refine kx_st 1 (pc' := 44) (L' := [some (.ref 0), some (.int (nI k)), some (.int b), some (.int 0), some (.ref (14 + k))]) (st' := []) (h' := kv_wd g w) rfl ?_
              refine kx_st 6 (pc' := 56) (L' := [some (.ref 0), some (.int (nI k)), some (.int b), some (.int 0), some (.ref (14 + k))]) (st' := [.int 10, .int b, .ref 2, .ref (14 + k)]) (h' := kv_wd g w) rfl ?_
              refine kx_dv rfl (by decide) ?_
              refine kx_st 2 (pc' := 60) (L' := [some (.ref 0), some (.int (nI k)), some (.int b), some (.int 0), some (.ref (14 + k))]) (st' := [.int 10, .int b, .int (b / 10), .ref 2, .ref (14 + k)]) (h' := kv_wd g w) rfl ?_
              refine kx_rm rfl (by decide) ?_
              have e1 : kx_ms (g 4 x + g 3 y) (g (14 + k) 4) = kx_mq q0 (K k) x y := by rw [(hq0.1 x (by omega)).2, (hq0.1 y (by omega)).1, kk 4 (by omega)]; rfl
              have em := ev_misses (E := E) (d := 896) (g := g) (w := w) kv_hd2 k hk8 x y (by omega) (by omega) (by obtain ⟨z, h1, h2⟩ := (hb0 x (by omega)).2; exact ⟨z, h1, (hq0.1 x (by omega)).2.trans h2⟩) (by obtain ⟨z, h1, h2⟩ := (hb0 y (by omega)).1; exact ⟨z, h1, (hq0.1 y (by omega)).1.trans h2⟩) (by obtain ⟨z, h1, h2⟩ := hK.2.2.2.2.1; exact ⟨z, h1, (kk 4 (by omega)).trans h2⟩)
              rw [e1] at em
              refine kx_call (z := 33) (as := [.ref (14 + k), .ref 2, .int (b / 10), .int (b % 10)]) (rest := []) (v := some (.int (kx_mq q0 (K k) x y))) (h1 := kv_wd g w) (kx_cv (b := 14 + k) (A := [.ref 2, .int (b / 10), .int (b % 10)]) (rest := []) rfl rfl rfl rfl (Nat.le_of_ble_eq_true rfl) (kv_kn_h hk8).1 ((kv_kn_h hk8).2 _ _)) (by rw [e10, e11]; exact em) ?_
              refine kx_st 0 (pc' := 64) (L' := [some (.ref 0), some (.int (nI k)), some (.int b), some (.int 0), some (.ref (14 + k))]) (st' := [.int (kx_mq q0 (K k) x y)]) (h' := kv_wd g w) rfl ?_
              refine kx_ret (v := some (.int (kx_mq q0 (K k) x y))) rfl ?_
              refine ⟨_, _, _, rfl, rfl, ?_⟩
              refine kx_st 0 (pc' := 0) (L' := [some (.ref 65), some (.int (nI k)), some (.int b), some (.int 0)]) (st' := []) (h' := kv_wd g w) rfl ?_
              refine kx_st 2 (pc' := 2) (L' := [some (.ref 65), some (.int (nI k)), some (.int b), some (.int 0)]) (st' := [.int (nI k), .ref 65]) (h' := kv_wd g w) rfl ?_
              refine kx_call (z := 139) (as := [.ref 65, .int (nI k)]) (rest := []) (v := some (.int (kx_b (0 ≤ nI k ∧ nI k < nI m)))) (h1 := kv_wd g w) rfl (ev_mKnotS (d := 897) (g := g) (s := m) (by first | exact d2 | (rw [kv_up_ne (by omega)]; exact d2)) a4 (nI k)) ?_
              refine kx_st 0 (pc' := 5) (L' := [some (.ref 65), some (.int (nI k)), some (.int b), some (.int 0)]) (st' := [.int (kx_b (0 ≤ nI k ∧ nI k < nI m))]) (h' := kv_wd g w) rfl ?_
              refine kx_be (t := 25) rfl rfl (fun (m5 : ¬ (0 ≤ nI k ∧ nI k < nI m)) => ?_) (fun (m5 : (0 ≤ nI k ∧ nI k < nI m)) => ?_)
              · exact absurd hv m5
              · refine kx_st 0 (pc' := 8) (L' := [some (.ref 65), some (.int (nI k)), some (.int b), some (.int 0)]) (st' := []) (h' := kv_wd g w) rfl ?_
                refine kx_st 2 (pc' := 10) (L' := [some (.ref 65), some (.int (nI k)), some (.int b), some (.int 0)]) (st' := [.int b, .ref 65]) (h' := kv_wd g w) rfl ?_
                refine kx_call (z := 140) (as := [.ref 65, .int b]) (rest := []) (v := some (.int (kx_b (kx_pr s b)))) (h1 := kv_wd g w) rfl (ev_mPairS (d := 896) (g := g) (s := s) b2 a2 b) ?_
                refine kx_st 0 (pc' := 13) (L' := [some (.ref 65), some (.int (nI k)), some (.int b), some (.int 0)]) (st' := [.int (kx_b (kx_pr s b))]) (h' := kv_wd g w) rfl ?_
                refine kx_be (t := 25) rfl rfl (fun (m13 : ¬ (kx_pr s b)) => ?_) (fun (m13 : (kx_pr s b)) => ?_)
                · exact absurd hp m13
                · refine kx_st 0 (pc' := 16) (L' := [some (.ref 65), some (.int (nI k)), some (.int b), some (.int 0)]) (st' := []) (h' := kv_wd g w) rfl ?_
                  refine kx_st 3 (pc' := 19) (L' := [some (.ref 65), some (.int (nI k)), some (.int b), some (.int 0)]) (st' := [.int 1, .int 0, .int 0]) (h' := kv_wd g w) rfl ?_
                  refine kx_call (z := 130) (as := [.int 0, .int 0, .int 1]) (rest := []) (v := some (.int (kx_b (0 ≤ (0 : Int32) ∧ (0 : Int32) ≤ 1)))) (h1 := kv_wd g w) rfl (ev_in (d := 898) 0 0 1) ?_
                  refine kx_st 0 (pc' := 22) (L' := [some (.ref 65), some (.int (nI k)), some (.int b), some (.int 0)]) (st' := [.int (kx_b (0 ≤ (0 : Int32) ∧ (0 : Int32) ≤ 1))]) (h' := kv_wd g w) rfl ?_
                  refine kx_bn (t := 32) rfl rfl (fun (m22 : (0 ≤ (0 : Int32) ∧ (0 : Int32) ≤ 1)) => ?_) (fun (m22 : ¬ (0 ≤ (0 : Int32) ∧ (0 : Int32) ≤ 1)) => ?_)
                  · refine kx_st 1 (pc' := 33) (L' := [some (.ref 65), some (.int (nI k)), some (.int b), some (.int 0)]) (st' := [.int 0]) (h' := kv_wd g w) rfl ?_
                    refine kx_st 1 (pc' := 36) (L' := [some (.ref 65), some (.int (nI k)), some (.int b), some (.int 0)]) (st' := []) (h' := kv_wd g w) rfl ?_
                    refine kx_st 4 (pc' := 41) (L' := [some (.ref 65), some (.int (nI k)), some (.int b), some (.int 0)]) (st' := [.int 10, .int b, .int (nI k), .ref 65]) (h' := kv_wd g w) rfl ?_
                    refine kx_dv rfl (by decide) ?_
                    refine kx_st 2 (pc' := 45) (L' := [some (.ref 65), some (.int (nI k)), some (.int b), some (.int 0)]) (st' := [.int 10, .int b, .int (b / 10), .int (nI k), .ref 65]) (h' := kv_wd g w) rfl ?_
                    refine kx_rm rfl (by decide) ?_
                    refine kx_call (z := 172) (as := [.ref 65, .int (nI k), .int (b / 10), .int (b % 10)]) (rest := []) (v := some (.int (kx_mq q0 (K k) x y))) (h1 := kv_wd g w) rfl (by rw [e10, e11]; exact ev_mmisses (d := 897) (g := g) hM q0 hm0 k hkm x y (by omega) (by omega)) ?_
                    refine kx_st 0 (pc' := 49) (L' := [some (.ref 65), some (.int (nI k)), some (.int b), some (.int 0)]) (st' := [.int (kx_mq q0 (K k) x y)]) (h' := kv_wd g w) rfl ?_
                    refine kx_st 1 (pc' := 81) (L' := [some (.ref 65), some (.int (nI k)), some (.int b), some (.int 0)]) (st' := [.int (kx_mq q0 (K k) x y)]) (h' := kv_wd g w) rfl ?_
                    refine kx_ret (v := some (.int (kx_mq q0 (K k) x y))) rfl ?_
                    exact ⟨rfl, _, _, rfl, kx_Rl_skip _ _ _ _ hR⟩
                  · exact absurd hc m22
            · exact absurd hc h31
        · refine kx_two (by decide) (Nat.le_of_ble_eq_true rfl) (by decide) (Nat.le_of_ble_eq_true rfl) ?_
          refine kx_st 0 (pc' := 0) (L' := [some (.ref 0), some (.int (nI k)), some (.int b), some (.int 1), none]) (st' := []) (h' := kv_wd g w) rfl ?_
          refine kx_st 3 (pc' := 5) (L' := [some (.ref 0), some (.int (nI k)), some (.int b), some (.int 1), none]) (st' := [.int (nI k), .ref 1]) (h' := kv_wd g w) rfl ?_
          refine kx_call (z := 17) (as := [.ref 1, .int (nI k)]) (rest := []) (v := some (.ref (14 + k))) (h1 := kv_wd g w) rfl (ev_knotAt (d := 898) (g := g) q k hk8 (by rw [d1]; exact nI_lt hkm (by omega))) ?_
          refine kx_st 0 (pc' := 8) (L' := [some (.ref 0), some (.int (nI k)), some (.int b), some (.int 1), none]) (st' := [.ref (14 + k)]) (h' := kv_wd g w) rfl ?_
          refine kx_st 2 (pc' := 12) (L' := [some (.ref 0), some (.int (nI k)), some (.int b), some (.int 1), some (.ref (14 + k))]) (st' := [.ref (14 + k)]) (h' := kv_wd g w) rfl ?_
          refine kx_st 1 (pc' := 15) (L' := [some (.ref 0), some (.int (nI k)), some (.int b), some (.int 1), some (.ref (14 + k))]) (st' := []) (h' := kv_wd g w) rfl ?_
          refine kx_st 3 (pc' := 20) (L' := [some (.ref 0), some (.int (nI k)), some (.int b), some (.int 1), some (.ref (14 + k))]) (st' := [.int b, .ref 1]) (h' := kv_wd g w) rfl ?_
          refine kx_call (z := 12) (as := [.ref 1, .int b]) (rest := []) (v := some (.int (kx_b (kx_pr s b)))) (h1 := kv_wd g w) rfl (ev_isPairS (d := 897) (g := g) (s := s) b1 a2 b) ?_
          refine kx_st 0 (pc' := 23) (L' := [some (.ref 0), some (.int (nI k)), some (.int b), some (.int 1), some (.ref (14 + k))]) (st' := [.int (kx_b (kx_pr s b))]) (h' := kv_wd g w) rfl ?_
          refine kx_be (t := 34) rfl rfl (fun (h23 : ¬ (kx_pr s b)) => ?_) (fun (h23 : (kx_pr s b)) => ?_)
          · exact absurd hp h23
          · refine kx_st 0 (pc' := 26) (L' := [some (.ref 0), some (.int (nI k)), some (.int b), some (.int 1), some (.ref (14 + k))]) (st' := []) (h' := kv_wd g w) rfl ?_
            refine kx_st 2 (pc' := 28) (L' := [some (.ref 0), some (.int (nI k)), some (.int b), some (.int 1), some (.ref (14 + k))]) (st' := [.int 1, .int 1]) (h' := kv_wd g w) rfl ?_
            refine kx_call (z := 124) (as := [.int 1, .int 1]) (rest := []) (v := some (.int (kx_b (0 ≤ (1 : Int32) ∧ (1 : Int32) ≤ 1)))) (h1 := kv_wd g w) rfl (ev_within (d := 898) 1 1) ?_
            refine kx_st 0 (pc' := 31) (L' := [some (.ref 0), some (.int (nI k)), some (.int b), some (.int 1), some (.ref (14 + k))]) (st' := [.int (kx_b (0 ≤ (1 : Int32) ∧ (1 : Int32) ≤ 1))]) (h' := kv_wd g w) rfl ?_
            refine kx_bn (t := 40) rfl rfl (fun (h31 : (0 ≤ (1 : Int32) ∧ (1 : Int32) ≤ 1)) => ?_) (fun (h31 : ¬ (0 ≤ (1 : Int32) ∧ (1 : Int32) ≤ 1)) => ?_)
            · refine kx_st 1 (pc' := 41) (L' := [some (.ref 0), some (.int (nI k)), some (.int b), some (.int 1), some (.ref (14 + k))]) (st' := [.int 1]) (h' := kv_wd g w) rfl ?_
              refine kx_st 1 (pc' := 65) (L' := [some (.ref 0), some (.int (nI k)), some (.int b), some (.int 1), some (.ref (14 + k))]) (st' := []) (h' := kv_wd g w) rfl ?_
              refine kx_st 3 (pc' := 69) (L' := [some (.ref 0), some (.int (nI k)), some (.int b), some (.int 1), some (.ref (14 + k))]) (st' := [.int b, .ref (14 + k), .ref 0]) (h' := kv_wd g w) rfl ?_
              obtain ⟨g69, e69, r69⟩ := ev_canNow (E := E) (d := 890) (g := g) (w := w) hX q q0 hq0 hb0 k hkm hK b x y hx hy e10 e11
              have M69 : kx_M F0 F1 s t m K (g69 66) := by rw [r69 66 (by omega) (by omega) (by omega) (by omega) (by omega)]; exact hM
              have m69 : kx_hmq (g69 66) q0 := by rw [r69 66 (by omega) (by omega) (by omega) (by omega) (by omega)]; exact hm0
              refine kx_call (z := 128) (as := [.ref 0, .ref (14 + k), .int b]) (rest := []) (v := some (.int (kx_b (kx_fr K k ∧ kx_cn F1 t q0 (K k) x y)))) (h1 := kv_wd g69 w) rfl e69 ?_
              refine kx_st 0 (pc' := 72) (L' := [some (.ref 0), some (.int (nI k)), some (.int b), some (.int 1), some (.ref (14 + k))]) (st' := [.int (kx_b (kx_fr K k ∧ kx_cn F1 t q0 (K k) x y))]) (h' := kv_wd g69 w) rfl ?_
              refine kx_be (t := 79) rfl rfl (fun (h72 : ¬ (kx_fr K k ∧ kx_cn F1 t q0 (K k) x y)) => ?_) (fun (h72 : (kx_fr K k ∧ kx_cn F1 t q0 (K k) x y)) => ?_)
              · refine kx_st 1 (pc' := 80) (L' := [some (.ref 0), some (.int (nI k)), some (.int b), some (.int 1), some (.ref (14 + k))]) (st' := [.int 0]) (h' := kv_wd g69 w) rfl ?_
                refine kx_ret (v := some (.int 0)) rfl ?_
                refine ⟨_, _, _, rfl, rfl, ?_⟩
                refine kx_st 0 (pc' := 0) (L' := [some (.ref 65), some (.int (nI k)), some (.int b), some (.int 1)]) (st' := []) (h' := kv_wd g69 w) rfl ?_
                refine kx_st 2 (pc' := 2) (L' := [some (.ref 65), some (.int (nI k)), some (.int b), some (.int 1)]) (st' := [.int (nI k), .ref 65]) (h' := kv_wd g69 w) rfl ?_
                refine kx_call (z := 139) (as := [.ref 65, .int (nI k)]) (rest := []) (v := some (.int (kx_b (0 ≤ nI k ∧ nI k < nI m)))) (h1 := kv_wd g69 w) rfl (ev_mKnotS (d := 897) (g := g69) (s := m) M69.2.1.2 a4 (nI k)) ?_
                refine kx_st 0 (pc' := 5) (L' := [some (.ref 65), some (.int (nI k)), some (.int b), some (.int 1)]) (st' := [.int (kx_b (0 ≤ nI k ∧ nI k < nI m))]) (h' := kv_wd g69 w) rfl ?_
                refine kx_be (t := 25) rfl rfl (fun (m5 : ¬ (0 ≤ nI k ∧ nI k < nI m)) => ?_) (fun (m5 : (0 ≤ nI k ∧ nI k < nI m)) => ?_)
                · exact absurd hv m5
                · refine kx_st 0 (pc' := 8) (L' := [some (.ref 65), some (.int (nI k)), some (.int b), some (.int 1)]) (st' := []) (h' := kv_wd g69 w) rfl ?_
                  refine kx_st 2 (pc' := 10) (L' := [some (.ref 65), some (.int (nI k)), some (.int b), some (.int 1)]) (st' := [.int b, .ref 65]) (h' := kv_wd g69 w) rfl ?_
                  refine kx_call (z := 140) (as := [.ref 65, .int b]) (rest := []) (v := some (.int (kx_b (kx_pr s b)))) (h1 := kv_wd g69 w) rfl (ev_mPairS (d := 896) (g := g69) (s := s) M69.2.1.1 a2 b) ?_
                  refine kx_st 0 (pc' := 13) (L' := [some (.ref 65), some (.int (nI k)), some (.int b), some (.int 1)]) (st' := [.int (kx_b (kx_pr s b))]) (h' := kv_wd g69 w) rfl ?_
                  refine kx_be (t := 25) rfl rfl (fun (m13 : ¬ (kx_pr s b)) => ?_) (fun (m13 : (kx_pr s b)) => ?_)
                  · exact absurd hp m13
                  · refine kx_st 0 (pc' := 16) (L' := [some (.ref 65), some (.int (nI k)), some (.int b), some (.int 1)]) (st' := []) (h' := kv_wd g69 w) rfl ?_
                    refine kx_st 3 (pc' := 19) (L' := [some (.ref 65), some (.int (nI k)), some (.int b), some (.int 1)]) (st' := [.int 1, .int 0, .int 1]) (h' := kv_wd g69 w) rfl ?_
                    refine kx_call (z := 130) (as := [.int 1, .int 0, .int 1]) (rest := []) (v := some (.int (kx_b (0 ≤ (1 : Int32) ∧ (1 : Int32) ≤ 1)))) (h1 := kv_wd g69 w) rfl (ev_in (d := 898) 1 0 1) ?_
                    refine kx_st 0 (pc' := 22) (L' := [some (.ref 65), some (.int (nI k)), some (.int b), some (.int 1)]) (st' := [.int (kx_b (0 ≤ (1 : Int32) ∧ (1 : Int32) ≤ 1))]) (h' := kv_wd g69 w) rfl ?_
                    refine kx_bn (t := 32) rfl rfl (fun (m22 : (0 ≤ (1 : Int32) ∧ (1 : Int32) ≤ 1)) => ?_) (fun (m22 : ¬ (0 ≤ (1 : Int32) ∧ (1 : Int32) ≤ 1)) => ?_)
                    · refine kx_st 1 (pc' := 33) (L' := [some (.ref 65), some (.int (nI k)), some (.int b), some (.int 1)]) (st' := [.int 1]) (h' := kv_wd g69 w) rfl ?_
                      refine kx_st 1 (pc' := 52) (L' := [some (.ref 65), some (.int (nI k)), some (.int b), some (.int 1)]) (st' := []) (h' := kv_wd g69 w) rfl ?_
                      refine kx_st 2 (pc' := 54) (L' := [some (.ref 65), some (.int (nI k)), some (.int b), some (.int 1)]) (st' := [.int (nI k), .ref 65]) (h' := kv_wd g69 w) rfl ?_
                      refine kx_call (z := 173) (as := [.ref 65, .int (nI k)]) (rest := []) (v := some (.int (kx_b (kx_fr K k)))) (h1 := kv_wd g69 w) rfl (ev_isFree (d := 897) (g := g69) M69 k hkm hK) ?_
                      refine kx_st 0 (pc' := 57) (L' := [some (.ref 65), some (.int (nI k)), some (.int b), some (.int 1)]) (st' := [.int (kx_b (kx_fr K k))]) (h' := kv_wd g69 w) rfl ?_
                      refine kx_be (t := 80) rfl rfl (fun (m57 : ¬ (kx_fr K k)) => ?_) (fun (m57 : (kx_fr K k)) => ?_)
                      · refine kx_st 1 (pc' := 81) (L' := [some (.ref 65), some (.int (nI k)), some (.int b), some (.int 1)]) (st' := [.int 0]) (h' := kv_wd g69 w) rfl ?_
                        refine kx_ret (v := some (.int 0)) rfl ?_
                        exact ⟨rfl, _, _, rfl, kx_Rl_skip _ _ _ _ (kx_Rl_ro hR rfl (fun b h8 h11 h4 h65 h66 h68 h69 => r69 b h8 h11 (by omega) (by omega) (by omega)) (fun z hz => congrFun (r69 65 (by omega) (by omega) (by omega) (by omega) (by omega)) z) (fun j hj => congrFun (r69 66 (by omega) (by omega) (by omega) (by omega) (by omega)) j))⟩
                      · refine kx_st 0 (pc' := 60) (L' := [some (.ref 65), some (.int (nI k)), some (.int b), some (.int 1)]) (st' := []) (h' := kv_wd g69 w) rfl ?_
                        refine kx_st 4 (pc' := 65) (L' := [some (.ref 65), some (.int (nI k)), some (.int b), some (.int 1)]) (st' := [.int 10, .int b, .int (nI k), .ref 65]) (h' := kv_wd g69 w) rfl ?_
                        refine kx_dv rfl (by decide) ?_
                        refine kx_st 2 (pc' := 69) (L' := [some (.ref 65), some (.int (nI k)), some (.int b), some (.int 1)]) (st' := [.int 10, .int b, .int (b / 10), .int (nI k), .ref 65]) (h' := kv_wd g69 w) rfl ?_
                        refine kx_rm rfl (by decide) ?_
                        obtain ⟨f70, k70, e70⟩ := ev_canTwo (E := E) (d := 798) (g := g69) (w := w) M69 q0 m69 k hkm hK x y hx hy
                        refine kx_call (z := 174) (as := [.ref 65, .int (nI k), .int (b / 10), .int (b % 10)]) (rest := []) (v := some (.int (kx_b (kx_cn F1 t q0 (K k) x y)))) (h1 := kv_wd (kv_uf g69 65 f70) w) rfl (by rw [e10, e11]; exact e70) ?_
                        refine kx_st 0 (pc' := 73) (L' := [some (.ref 65), some (.int (nI k)), some (.int b), some (.int 1)]) (st' := [.int (kx_b (kx_cn F1 t q0 (K k) x y))]) (h' := kv_wd (kv_uf g69 65 f70) w) rfl ?_
                        refine kx_be (t := 80) rfl rfl (fun (m73 : ¬ (kx_cn F1 t q0 (K k) x y)) => ?_) (fun (m73 : (kx_cn F1 t q0 (K k) x y)) => ?_)
                        · refine kx_st 1 (pc' := 81) (L' := [some (.ref 65), some (.int (nI k)), some (.int b), some (.int 1)]) (st' := [.int 0]) (h' := kv_wd (kv_uf g69 65 f70) w) rfl ?_
                          refine kx_ret (v := some (.int 0)) rfl ?_
                          exact ⟨rfl, _, _, rfl, kx_Rl_skip _ _ _ _ (kx_Rl_ro hR rfl (fun b h8 h11 h4 h65 h66 h68 h69 => (by rw [kv_uf_ne h65]; exact r69 b h8 h11 (by omega) (by omega) (by omega))) (fun z hz => (k70 z hz).trans (congrFun (r69 65 (by omega) (by omega) (by omega) (by omega) (by omega)) z)) (fun j hj => congrFun (r69 66 (by omega) (by omega) (by omega) (by omega) (by omega)) j))⟩
                        · exact absurd ⟨m57, m73⟩ h72
                    · exact absurd hc m22
              · refine kx_st 0 (pc' := 75) (L' := [some (.ref 0), some (.int (nI k)), some (.int b), some (.int 1), some (.ref (14 + k))]) (st' := []) (h' := kv_wd g69 w) rfl ?_
                refine kx_st 2 (pc' := 80) (L' := [some (.ref 0), some (.int (nI k)), some (.int b), some (.int 1), some (.ref (14 + k))]) (st' := [.int 1]) (h' := kv_wd g69 w) rfl ?_
                refine kx_ret (v := some (.int 1)) rfl ?_
                refine ⟨_, _, _, rfl, rfl, ?_⟩
                refine kx_st 0 (pc' := 0) (L' := [some (.ref 65), some (.int (nI k)), some (.int b), some (.int 1)]) (st' := []) (h' := kv_wd g69 w) rfl ?_
                refine kx_st 2 (pc' := 2) (L' := [some (.ref 65), some (.int (nI k)), some (.int b), some (.int 1)]) (st' := [.int (nI k), .ref 65]) (h' := kv_wd g69 w) rfl ?_
                refine kx_call (z := 139) (as := [.ref 65, .int (nI k)]) (rest := []) (v := some (.int (kx_b (0 ≤ nI k ∧ nI k < nI m)))) (h1 := kv_wd g69 w) rfl (ev_mKnotS (d := 897) (g := g69) (s := m) M69.2.1.2 a4 (nI k)) ?_
                refine kx_st 0 (pc' := 5) (L' := [some (.ref 65), some (.int (nI k)), some (.int b), some (.int 1)]) (st' := [.int (kx_b (0 ≤ nI k ∧ nI k < nI m))]) (h' := kv_wd g69 w) rfl ?_
                refine kx_be (t := 25) rfl rfl (fun (m5 : ¬ (0 ≤ nI k ∧ nI k < nI m)) => ?_) (fun (m5 : (0 ≤ nI k ∧ nI k < nI m)) => ?_)
                · exact absurd hv m5
                · refine kx_st 0 (pc' := 8) (L' := [some (.ref 65), some (.int (nI k)), some (.int b), some (.int 1)]) (st' := []) (h' := kv_wd g69 w) rfl ?_
                  refine kx_st 2 (pc' := 10) (L' := [some (.ref 65), some (.int (nI k)), some (.int b), some (.int 1)]) (st' := [.int b, .ref 65]) (h' := kv_wd g69 w) rfl ?_
                  refine kx_call (z := 140) (as := [.ref 65, .int b]) (rest := []) (v := some (.int (kx_b (kx_pr s b)))) (h1 := kv_wd g69 w) rfl (ev_mPairS (d := 896) (g := g69) (s := s) M69.2.1.1 a2 b) ?_
                  refine kx_st 0 (pc' := 13) (L' := [some (.ref 65), some (.int (nI k)), some (.int b), some (.int 1)]) (st' := [.int (kx_b (kx_pr s b))]) (h' := kv_wd g69 w) rfl ?_
                  refine kx_be (t := 25) rfl rfl (fun (m13 : ¬ (kx_pr s b)) => ?_) (fun (m13 : (kx_pr s b)) => ?_)
                  · exact absurd hp m13
                  · refine kx_st 0 (pc' := 16) (L' := [some (.ref 65), some (.int (nI k)), some (.int b), some (.int 1)]) (st' := []) (h' := kv_wd g69 w) rfl ?_
                    refine kx_st 3 (pc' := 19) (L' := [some (.ref 65), some (.int (nI k)), some (.int b), some (.int 1)]) (st' := [.int 1, .int 0, .int 1]) (h' := kv_wd g69 w) rfl ?_
                    refine kx_call (z := 130) (as := [.int 1, .int 0, .int 1]) (rest := []) (v := some (.int (kx_b (0 ≤ (1 : Int32) ∧ (1 : Int32) ≤ 1)))) (h1 := kv_wd g69 w) rfl (ev_in (d := 898) 1 0 1) ?_
                    refine kx_st 0 (pc' := 22) (L' := [some (.ref 65), some (.int (nI k)), some (.int b), some (.int 1)]) (st' := [.int (kx_b (0 ≤ (1 : Int32) ∧ (1 : Int32) ≤ 1))]) (h' := kv_wd g69 w) rfl ?_
                    refine kx_bn (t := 32) rfl rfl (fun (m22 : (0 ≤ (1 : Int32) ∧ (1 : Int32) ≤ 1)) => ?_) (fun (m22 : ¬ (0 ≤ (1 : Int32) ∧ (1 : Int32) ≤ 1)) => ?_)
                    · refine kx_st 1 (pc' := 33) (L' := [some (.ref 65), some (.int (nI k)), some (.int b), some (.int 1)]) (st' := [.int 1]) (h' := kv_wd g69 w) rfl ?_
                      refine kx_st 1 (pc' := 52) (L' := [some (.ref 65), some (.int (nI k)), some (.int b), some (.int 1)]) (st' := []) (h' := kv_wd g69 w) rfl ?_
                      refine kx_st 2 (pc' := 54) (L' := [some (.ref 65), some (.int (nI k)), some (.int b), some (.int 1)]) (st' := [.int (nI k), .ref 65]) (h' := kv_wd g69 w) rfl ?_
                      refine kx_call (z := 173) (as := [.ref 65, .int (nI k)]) (rest := []) (v := some (.int (kx_b (kx_fr K k)))) (h1 := kv_wd g69 w) rfl (ev_isFree (d := 897) (g := g69) M69 k hkm hK) ?_
                      refine kx_st 0 (pc' := 57) (L' := [some (.ref 65), some (.int (nI k)), some (.int b), some (.int 1)]) (st' := [.int (kx_b (kx_fr K k))]) (h' := kv_wd g69 w) rfl ?_
                      refine kx_be (t := 80) rfl rfl (fun (m57 : ¬ (kx_fr K k)) => ?_) (fun (m57 : (kx_fr K k)) => ?_)
                      · exact absurd h72.1 m57
                      · refine kx_st 0 (pc' := 60) (L' := [some (.ref 65), some (.int (nI k)), some (.int b), some (.int 1)]) (st' := []) (h' := kv_wd g69 w) rfl ?_
                        refine kx_st 4 (pc' := 65) (L' := [some (.ref 65), some (.int (nI k)), some (.int b), some (.int 1)]) (st' := [.int 10, .int b, .int (nI k), .ref 65]) (h' := kv_wd g69 w) rfl ?_
                        refine kx_dv rfl (by decide) ?_
                        refine kx_st 2 (pc' := 69) (L' := [some (.ref 65), some (.int (nI k)), some (.int b), some (.int 1)]) (st' := [.int 10, .int b, .int (b / 10), .int (nI k), .ref 65]) (h' := kv_wd g69 w) rfl ?_
                        refine kx_rm rfl (by decide) ?_
                        obtain ⟨f70, k70, e70⟩ := ev_canTwo (E := E) (d := 798) (g := g69) (w := w) M69 q0 m69 k hkm hK x y hx hy
                        refine kx_call (z := 174) (as := [.ref 65, .int (nI k), .int (b / 10), .int (b % 10)]) (rest := []) (v := some (.int (kx_b (kx_cn F1 t q0 (K k) x y)))) (h1 := kv_wd (kv_uf g69 65 f70) w) rfl (by rw [e10, e11]; exact e70) ?_
                        refine kx_st 0 (pc' := 73) (L' := [some (.ref 65), some (.int (nI k)), some (.int b), some (.int 1)]) (st' := [.int (kx_b (kx_cn F1 t q0 (K k) x y))]) (h' := kv_wd (kv_uf g69 65 f70) w) rfl ?_
                        refine kx_be (t := 80) rfl rfl (fun (m73 : ¬ (kx_cn F1 t q0 (K k) x y)) => ?_) (fun (m73 : (kx_cn F1 t q0 (K k) x y)) => ?_)
                        · exact absurd h72.2 m73
                        · refine kx_st 0 (pc' := 76) (L' := [some (.ref 65), some (.int (nI k)), some (.int b), some (.int 1)]) (st' := []) (h' := kv_wd (kv_uf g69 65 f70) w) rfl ?_
                          refine kx_st 2 (pc' := 81) (L' := [some (.ref 65), some (.int (nI k)), some (.int b), some (.int 1)]) (st' := [.int 1]) (h' := kv_wd (kv_uf g69 65 f70) w) rfl ?_
                          refine kx_ret (v := some (.int 1)) rfl ?_
                          exact ⟨rfl, _, _, rfl, kx_Rl_skip _ _ _ _ (kx_Rl_ro hR rfl (fun b h8 h11 h4 h65 h66 h68 h69 => (by rw [kv_uf_ne h65]; exact r69 b h8 h11 (by omega) (by omega) (by omega))) (fun z hz => (k70 z hz).trans (congrFun (r69 65 (by omega) (by omega) (by omega) (by omega) (by omega)) z)) (fun j hj => congrFun (r69 66 (by omega) (by omega) (by omega) (by omega) (by omega)) j))⟩
                    · exact absurd hc m22
            · exact absurd hc h31
      · refine kx_two (by decide) (Nat.le_of_ble_eq_true rfl) (by decide) (Nat.le_of_ble_eq_true rfl) ?_
        refine kx_st 0 (pc' := 0) (L' := [some (.ref 0), some (.int (nI k)), some (.int b), some (.int c), none]) (st' := []) (h' := kv_wd g w) rfl ?_
        refine kx_st 3 (pc' := 5) (L' := [some (.ref 0), some (.int (nI k)), some (.int b), some (.int c), none]) (st' := [.int (nI k), .ref 1]) (h' := kv_wd g w) rfl ?_
        refine kx_call (z := 17) (as := [.ref 1, .int (nI k)]) (rest := []) (v := some (.ref (14 + k))) (h1 := kv_wd g w) rfl (ev_knotAt (d := 898) (g := g) q k hk8 (by rw [d1]; exact nI_lt hkm (by omega))) ?_
        refine kx_st 0 (pc' := 8) (L' := [some (.ref 0), some (.int (nI k)), some (.int b), some (.int c), none]) (st' := [.ref (14 + k)]) (h' := kv_wd g w) rfl ?_
        refine kx_st 2 (pc' := 12) (L' := [some (.ref 0), some (.int (nI k)), some (.int b), some (.int c), some (.ref (14 + k))]) (st' := [.ref (14 + k)]) (h' := kv_wd g w) rfl ?_
        refine kx_st 1 (pc' := 15) (L' := [some (.ref 0), some (.int (nI k)), some (.int b), some (.int c), some (.ref (14 + k))]) (st' := []) (h' := kv_wd g w) rfl ?_
        refine kx_st 3 (pc' := 20) (L' := [some (.ref 0), some (.int (nI k)), some (.int b), some (.int c), some (.ref (14 + k))]) (st' := [.int b, .ref 1]) (h' := kv_wd g w) rfl ?_
        refine kx_call (z := 12) (as := [.ref 1, .int b]) (rest := []) (v := some (.int (kx_b (kx_pr s b)))) (h1 := kv_wd g w) rfl (ev_isPairS (d := 897) (g := g) (s := s) b1 a2 b) ?_
        refine kx_st 0 (pc' := 23) (L' := [some (.ref 0), some (.int (nI k)), some (.int b), some (.int c), some (.ref (14 + k))]) (st' := [.int (kx_b (kx_pr s b))]) (h' := kv_wd g w) rfl ?_
        refine kx_be (t := 34) rfl rfl (fun (h23 : ¬ (kx_pr s b)) => ?_) (fun (h23 : (kx_pr s b)) => ?_)
        · refine kx_st 2 (pc' := 36) (L' := [some (.ref 0), some (.int (nI k)), some (.int b), some (.int c), some (.ref (14 + k))]) (st' := [.int 1, .ref 0]) (h' := kv_wd g w) rfl ?_
          refine kx_call (z := 123) (as := [.ref 0, .int 1]) (rest := []) (v := some (.int (-1000000000 - nI 1))) (h1 := kv_wd (kv_up g 64 1 (g 64 1 + 1)) w) rfl (ev_error (d := 898) 1 (by decide) (by decide)) ?_
          refine kx_st 0 (pc' := 39) (L' := [some (.ref 0), some (.int (nI k)), some (.int b), some (.int c), some (.ref (14 + k))]) (st' := [.int (-1000000000 - nI 1)]) (h' := kv_wd (kv_up g 64 1 (g 64 1 + 1)) w) rfl ?_
          refine kx_ret (v := some (.int (-1000000000 - nI 1))) rfl ?_
          refine ⟨_, _, _, rfl, rfl, ?_⟩
          refine kx_st 0 (pc' := 0) (L' := [some (.ref 65), some (.int (nI k)), some (.int b), some (.int c)]) (st' := []) (h' := kv_wd (kv_up g 64 1 (g 64 1 + 1)) w) rfl ?_
          refine kx_st 2 (pc' := 2) (L' := [some (.ref 65), some (.int (nI k)), some (.int b), some (.int c)]) (st' := [.int (nI k), .ref 65]) (h' := kv_wd (kv_up g 64 1 (g 64 1 + 1)) w) rfl ?_
          refine kx_call (z := 139) (as := [.ref 65, .int (nI k)]) (rest := []) (v := some (.int (kx_b (0 ≤ nI k ∧ nI k < nI m)))) (h1 := kv_wd (kv_up g 64 1 (g 64 1 + 1)) w) rfl (ev_mKnotS (d := 897) (g := kv_up g 64 1 (g 64 1 + 1)) (s := m) (by first | exact d2 | (rw [kv_up_ne (by omega)]; exact d2)) a4 (nI k)) ?_
          refine kx_st 0 (pc' := 5) (L' := [some (.ref 65), some (.int (nI k)), some (.int b), some (.int c)]) (st' := [.int (kx_b (0 ≤ nI k ∧ nI k < nI m))]) (h' := kv_wd (kv_up g 64 1 (g 64 1 + 1)) w) rfl ?_
          refine kx_be (t := 25) rfl rfl (fun (m5 : ¬ (0 ≤ nI k ∧ nI k < nI m)) => ?_) (fun (m5 : (0 ≤ nI k ∧ nI k < nI m)) => ?_)
          · exact absurd hv m5
          · refine kx_st 0 (pc' := 8) (L' := [some (.ref 65), some (.int (nI k)), some (.int b), some (.int c)]) (st' := []) (h' := kv_wd (kv_up g 64 1 (g 64 1 + 1)) w) rfl ?_
            refine kx_st 2 (pc' := 10) (L' := [some (.ref 65), some (.int (nI k)), some (.int b), some (.int c)]) (st' := [.int b, .ref 65]) (h' := kv_wd (kv_up g 64 1 (g 64 1 + 1)) w) rfl ?_
            refine kx_call (z := 140) (as := [.ref 65, .int b]) (rest := []) (v := some (.int (kx_b (kx_pr s b)))) (h1 := kv_wd (kv_up g 64 1 (g 64 1 + 1)) w) rfl (ev_mPairS (d := 896) (g := kv_up g 64 1 (g 64 1 + 1)) (s := s) b2 a2 b) ?_
            refine kx_st 0 (pc' := 13) (L' := [some (.ref 65), some (.int (nI k)), some (.int b), some (.int c)]) (st' := [.int (kx_b (kx_pr s b))]) (h' := kv_wd (kv_up g 64 1 (g 64 1 + 1)) w) rfl ?_
            refine kx_be (t := 25) rfl rfl (fun (m13 : ¬ (kx_pr s b)) => ?_) (fun (m13 : (kx_pr s b)) => ?_)
            · refine kx_st 2 (pc' := 28) (L' := [some (.ref 65), some (.int (nI k)), some (.int b), some (.int c)]) (st' := [.int (-1000000001), .ref 65]) (h' := kv_wd (kv_up g 64 1 (g 64 1 + 1)) w) rfl ?_
              refine kx_call (z := 131) (as := [.ref 65, .int (-1000000001)]) (rest := []) (v := some (.int (-1000000001))) (h1 := kv_wd (kv_up (kv_up g 64 1 (g 64 1 + 1)) 70 1 ((kv_up g 64 1 (g 64 1 + 1)) 70 1 + 1)) w) rfl (ev_errs (d := 898) (-1000000001) 1 (by decide) (by decide)) ?_
              refine kx_st 0 (pc' := 31) (L' := [some (.ref 65), some (.int (nI k)), some (.int b), some (.int c)]) (st' := [.int (-1000000001)]) (h' := kv_wd (kv_up (kv_up g 64 1 (g 64 1 + 1)) 70 1 ((kv_up g 64 1 (g 64 1 + 1)) 70 1 + 1)) w) rfl ?_
              refine kx_ret (v := some (.int (-1000000001))) rfl ?_
              exact ⟨rfl, _, _, rfl, kx_Rl_e hR⟩
            · exact absurd m13 h23
        · refine kx_st 0 (pc' := 26) (L' := [some (.ref 0), some (.int (nI k)), some (.int b), some (.int c), some (.ref (14 + k))]) (st' := []) (h' := kv_wd g w) rfl ?_
          refine kx_st 2 (pc' := 28) (L' := [some (.ref 0), some (.int (nI k)), some (.int b), some (.int c), some (.ref (14 + k))]) (st' := [.int 1, .int c]) (h' := kv_wd g w) rfl ?_
          refine kx_call (z := 124) (as := [.int c, .int 1]) (rest := []) (v := some (.int (kx_b (0 ≤ c ∧ c ≤ 1)))) (h1 := kv_wd g w) rfl (ev_within (d := 898) c 1) ?_
          refine kx_st 0 (pc' := 31) (L' := [some (.ref 0), some (.int (nI k)), some (.int b), some (.int c), some (.ref (14 + k))]) (st' := [.int (kx_b (0 ≤ c ∧ c ≤ 1))]) (h' := kv_wd g w) rfl ?_
          refine kx_bn (t := 40) rfl rfl (fun (h31 : (0 ≤ c ∧ c ≤ 1)) => ?_) (fun (h31 : ¬ (0 ≤ c ∧ c ≤ 1)) => ?_)
          · exact absurd h31 hc
          · refine kx_st 0 (pc' := 34) (L' := [some (.ref 0), some (.int (nI k)), some (.int b), some (.int c), some (.ref (14 + k))]) (st' := []) (h' := kv_wd g w) rfl ?_
            refine kx_st 2 (pc' := 36) (L' := [some (.ref 0), some (.int (nI k)), some (.int b), some (.int c), some (.ref (14 + k))]) (st' := [.int 1, .ref 0]) (h' := kv_wd g w) rfl ?_
            refine kx_call (z := 123) (as := [.ref 0, .int 1]) (rest := []) (v := some (.int (-1000000000 - nI 1))) (h1 := kv_wd (kv_up g 64 1 (g 64 1 + 1)) w) rfl (ev_error (d := 898) 1 (by decide) (by decide)) ?_
            refine kx_st 0 (pc' := 39) (L' := [some (.ref 0), some (.int (nI k)), some (.int b), some (.int c), some (.ref (14 + k))]) (st' := [.int (-1000000000 - nI 1)]) (h' := kv_wd (kv_up g 64 1 (g 64 1 + 1)) w) rfl ?_
            refine kx_ret (v := some (.int (-1000000000 - nI 1))) rfl ?_
            refine ⟨_, _, _, rfl, rfl, ?_⟩
            refine kx_st 0 (pc' := 0) (L' := [some (.ref 65), some (.int (nI k)), some (.int b), some (.int c)]) (st' := []) (h' := kv_wd (kv_up g 64 1 (g 64 1 + 1)) w) rfl ?_
            refine kx_st 2 (pc' := 2) (L' := [some (.ref 65), some (.int (nI k)), some (.int b), some (.int c)]) (st' := [.int (nI k), .ref 65]) (h' := kv_wd (kv_up g 64 1 (g 64 1 + 1)) w) rfl ?_
            refine kx_call (z := 139) (as := [.ref 65, .int (nI k)]) (rest := []) (v := some (.int (kx_b (0 ≤ nI k ∧ nI k < nI m)))) (h1 := kv_wd (kv_up g 64 1 (g 64 1 + 1)) w) rfl (ev_mKnotS (d := 897) (g := kv_up g 64 1 (g 64 1 + 1)) (s := m) (by first | exact d2 | (rw [kv_up_ne (by omega)]; exact d2)) a4 (nI k)) ?_
            refine kx_st 0 (pc' := 5) (L' := [some (.ref 65), some (.int (nI k)), some (.int b), some (.int c)]) (st' := [.int (kx_b (0 ≤ nI k ∧ nI k < nI m))]) (h' := kv_wd (kv_up g 64 1 (g 64 1 + 1)) w) rfl ?_
            refine kx_be (t := 25) rfl rfl (fun (m5 : ¬ (0 ≤ nI k ∧ nI k < nI m)) => ?_) (fun (m5 : (0 ≤ nI k ∧ nI k < nI m)) => ?_)
            · exact absurd hv m5
            · refine kx_st 0 (pc' := 8) (L' := [some (.ref 65), some (.int (nI k)), some (.int b), some (.int c)]) (st' := []) (h' := kv_wd (kv_up g 64 1 (g 64 1 + 1)) w) rfl ?_
              refine kx_st 2 (pc' := 10) (L' := [some (.ref 65), some (.int (nI k)), some (.int b), some (.int c)]) (st' := [.int b, .ref 65]) (h' := kv_wd (kv_up g 64 1 (g 64 1 + 1)) w) rfl ?_
              refine kx_call (z := 140) (as := [.ref 65, .int b]) (rest := []) (v := some (.int (kx_b (kx_pr s b)))) (h1 := kv_wd (kv_up g 64 1 (g 64 1 + 1)) w) rfl (ev_mPairS (d := 896) (g := kv_up g 64 1 (g 64 1 + 1)) (s := s) b2 a2 b) ?_
              refine kx_st 0 (pc' := 13) (L' := [some (.ref 65), some (.int (nI k)), some (.int b), some (.int c)]) (st' := [.int (kx_b (kx_pr s b))]) (h' := kv_wd (kv_up g 64 1 (g 64 1 + 1)) w) rfl ?_
              refine kx_be (t := 25) rfl rfl (fun (m13 : ¬ (kx_pr s b)) => ?_) (fun (m13 : (kx_pr s b)) => ?_)
              · exact absurd h23 m13
              · refine kx_st 0 (pc' := 16) (L' := [some (.ref 65), some (.int (nI k)), some (.int b), some (.int c)]) (st' := []) (h' := kv_wd (kv_up g 64 1 (g 64 1 + 1)) w) rfl ?_
                refine kx_st 3 (pc' := 19) (L' := [some (.ref 65), some (.int (nI k)), some (.int b), some (.int c)]) (st' := [.int 1, .int 0, .int c]) (h' := kv_wd (kv_up g 64 1 (g 64 1 + 1)) w) rfl ?_
                refine kx_call (z := 130) (as := [.int c, .int 0, .int 1]) (rest := []) (v := some (.int (kx_b (0 ≤ c ∧ c ≤ 1)))) (h1 := kv_wd (kv_up g 64 1 (g 64 1 + 1)) w) rfl (ev_in (d := 898) c 0 1) ?_
                refine kx_st 0 (pc' := 22) (L' := [some (.ref 65), some (.int (nI k)), some (.int b), some (.int c)]) (st' := [.int (kx_b (0 ≤ c ∧ c ≤ 1))]) (h' := kv_wd (kv_up g 64 1 (g 64 1 + 1)) w) rfl ?_
                refine kx_bn (t := 32) rfl rfl (fun (m22 : (0 ≤ c ∧ c ≤ 1)) => ?_) (fun (m22 : ¬ (0 ≤ c ∧ c ≤ 1)) => ?_)
                · exact absurd m22 hc
                · refine kx_st 0 (pc' := 25) (L' := [some (.ref 65), some (.int (nI k)), some (.int b), some (.int c)]) (st' := []) (h' := kv_wd (kv_up g 64 1 (g 64 1 + 1)) w) rfl ?_
                  refine kx_st 2 (pc' := 28) (L' := [some (.ref 65), some (.int (nI k)), some (.int b), some (.int c)]) (st' := [.int (-1000000001), .ref 65]) (h' := kv_wd (kv_up g 64 1 (g 64 1 + 1)) w) rfl ?_
                  refine kx_call (z := 131) (as := [.ref 65, .int (-1000000001)]) (rest := []) (v := some (.int (-1000000001))) (h1 := kv_wd (kv_up (kv_up g 64 1 (g 64 1 + 1)) 70 1 ((kv_up g 64 1 (g 64 1 + 1)) 70 1 + 1)) w) rfl (ev_errs (d := 898) (-1000000001) 1 (by decide) (by decide)) ?_
                  refine kx_st 0 (pc' := 31) (L' := [some (.ref 65), some (.int (nI k)), some (.int b), some (.int c)]) (st' := [.int (-1000000001)]) (h' := kv_wd (kv_up (kv_up g 64 1 (g 64 1 + 1)) 70 1 ((kv_up g 64 1 (g 64 1 + 1)) 70 1 + 1)) w) rfl ?_
                  refine kx_ret (v := some (.int (-1000000001))) rfl ?_
                  exact ⟨rfl, _, _, rfl, kx_Rl_e hR⟩
    · refine kx_two (by decide) (Nat.le_of_ble_eq_true rfl) (by decide) (Nat.le_of_ble_eq_true rfl) ?_
      refine kx_st 0 (pc' := 0) (L' := [some (.ref 0), some (.int (nI k)), some (.int b), some (.int c), none]) (st' := []) (h' := kv_wd g w) rfl ?_
      refine kx_st 3 (pc' := 5) (L' := [some (.ref 0), some (.int (nI k)), some (.int b), some (.int c), none]) (st' := [.int (nI k), .ref 1]) (h' := kv_wd g w) rfl ?_
      refine kx_call (z := 17) (as := [.ref 1, .int (nI k)]) (rest := []) (v := some (.ref (14 + k))) (h1 := kv_wd g w) rfl (ev_knotAt (d := 898) (g := g) q k hk8 (by rw [d1]; exact nI_lt hkm (by omega))) ?_
      refine kx_st 0 (pc' := 8) (L' := [some (.ref 0), some (.int (nI k)), some (.int b), some (.int c), none]) (st' := [.ref (14 + k)]) (h' := kv_wd g w) rfl ?_
      refine kx_st 2 (pc' := 12) (L' := [some (.ref 0), some (.int (nI k)), some (.int b), some (.int c), some (.ref (14 + k))]) (st' := [.ref (14 + k)]) (h' := kv_wd g w) rfl ?_
      refine kx_st 1 (pc' := 15) (L' := [some (.ref 0), some (.int (nI k)), some (.int b), some (.int c), some (.ref (14 + k))]) (st' := []) (h' := kv_wd g w) rfl ?_
      refine kx_st 3 (pc' := 20) (L' := [some (.ref 0), some (.int (nI k)), some (.int b), some (.int c), some (.ref (14 + k))]) (st' := [.int b, .ref 1]) (h' := kv_wd g w) rfl ?_
      refine kx_call (z := 12) (as := [.ref 1, .int b]) (rest := []) (v := some (.int (kx_b (kx_pr s b)))) (h1 := kv_wd g w) rfl (ev_isPairS (d := 897) (g := g) (s := s) b1 a2 b) ?_
      refine kx_st 0 (pc' := 23) (L' := [some (.ref 0), some (.int (nI k)), some (.int b), some (.int c), some (.ref (14 + k))]) (st' := [.int (kx_b (kx_pr s b))]) (h' := kv_wd g w) rfl ?_
      refine kx_be (t := 34) rfl rfl (fun (h23 : ¬ (kx_pr s b)) => ?_) (fun (h23 : (kx_pr s b)) => ?_)
      · refine kx_st 2 (pc' := 36) (L' := [some (.ref 0), some (.int (nI k)), some (.int b), some (.int c), some (.ref (14 + k))]) (st' := [.int 1, .ref 0]) (h' := kv_wd g w) rfl ?_
        refine kx_call (z := 123) (as := [.ref 0, .int 1]) (rest := []) (v := some (.int (-1000000000 - nI 1))) (h1 := kv_wd (kv_up g 64 1 (g 64 1 + 1)) w) rfl (ev_error (d := 898) 1 (by decide) (by decide)) ?_
        refine kx_st 0 (pc' := 39) (L' := [some (.ref 0), some (.int (nI k)), some (.int b), some (.int c), some (.ref (14 + k))]) (st' := [.int (-1000000000 - nI 1)]) (h' := kv_wd (kv_up g 64 1 (g 64 1 + 1)) w) rfl ?_
        refine kx_ret (v := some (.int (-1000000000 - nI 1))) rfl ?_
        refine ⟨_, _, _, rfl, rfl, ?_⟩
        refine kx_st 0 (pc' := 0) (L' := [some (.ref 65), some (.int (nI k)), some (.int b), some (.int c)]) (st' := []) (h' := kv_wd (kv_up g 64 1 (g 64 1 + 1)) w) rfl ?_
        refine kx_st 2 (pc' := 2) (L' := [some (.ref 65), some (.int (nI k)), some (.int b), some (.int c)]) (st' := [.int (nI k), .ref 65]) (h' := kv_wd (kv_up g 64 1 (g 64 1 + 1)) w) rfl ?_
        refine kx_call (z := 139) (as := [.ref 65, .int (nI k)]) (rest := []) (v := some (.int (kx_b (0 ≤ nI k ∧ nI k < nI m)))) (h1 := kv_wd (kv_up g 64 1 (g 64 1 + 1)) w) rfl (ev_mKnotS (d := 897) (g := kv_up g 64 1 (g 64 1 + 1)) (s := m) (by first | exact d2 | (rw [kv_up_ne (by omega)]; exact d2)) a4 (nI k)) ?_
        refine kx_st 0 (pc' := 5) (L' := [some (.ref 65), some (.int (nI k)), some (.int b), some (.int c)]) (st' := [.int (kx_b (0 ≤ nI k ∧ nI k < nI m))]) (h' := kv_wd (kv_up g 64 1 (g 64 1 + 1)) w) rfl ?_
        refine kx_be (t := 25) rfl rfl (fun (m5 : ¬ (0 ≤ nI k ∧ nI k < nI m)) => ?_) (fun (m5 : (0 ≤ nI k ∧ nI k < nI m)) => ?_)
        · exact absurd hv m5
        · refine kx_st 0 (pc' := 8) (L' := [some (.ref 65), some (.int (nI k)), some (.int b), some (.int c)]) (st' := []) (h' := kv_wd (kv_up g 64 1 (g 64 1 + 1)) w) rfl ?_
          refine kx_st 2 (pc' := 10) (L' := [some (.ref 65), some (.int (nI k)), some (.int b), some (.int c)]) (st' := [.int b, .ref 65]) (h' := kv_wd (kv_up g 64 1 (g 64 1 + 1)) w) rfl ?_
          refine kx_call (z := 140) (as := [.ref 65, .int b]) (rest := []) (v := some (.int (kx_b (kx_pr s b)))) (h1 := kv_wd (kv_up g 64 1 (g 64 1 + 1)) w) rfl (ev_mPairS (d := 896) (g := kv_up g 64 1 (g 64 1 + 1)) (s := s) b2 a2 b) ?_
          refine kx_st 0 (pc' := 13) (L' := [some (.ref 65), some (.int (nI k)), some (.int b), some (.int c)]) (st' := [.int (kx_b (kx_pr s b))]) (h' := kv_wd (kv_up g 64 1 (g 64 1 + 1)) w) rfl ?_
          refine kx_be (t := 25) rfl rfl (fun (m13 : ¬ (kx_pr s b)) => ?_) (fun (m13 : (kx_pr s b)) => ?_)
          · refine kx_st 2 (pc' := 28) (L' := [some (.ref 65), some (.int (nI k)), some (.int b), some (.int c)]) (st' := [.int (-1000000001), .ref 65]) (h' := kv_wd (kv_up g 64 1 (g 64 1 + 1)) w) rfl ?_
            refine kx_call (z := 131) (as := [.ref 65, .int (-1000000001)]) (rest := []) (v := some (.int (-1000000001))) (h1 := kv_wd (kv_up (kv_up g 64 1 (g 64 1 + 1)) 70 1 ((kv_up g 64 1 (g 64 1 + 1)) 70 1 + 1)) w) rfl (ev_errs (d := 898) (-1000000001) 1 (by decide) (by decide)) ?_
            refine kx_st 0 (pc' := 31) (L' := [some (.ref 65), some (.int (nI k)), some (.int b), some (.int c)]) (st' := [.int (-1000000001)]) (h' := kv_wd (kv_up (kv_up g 64 1 (g 64 1 + 1)) 70 1 ((kv_up g 64 1 (g 64 1 + 1)) 70 1 + 1)) w) rfl ?_
            refine kx_ret (v := some (.int (-1000000001))) rfl ?_
            exact ⟨rfl, _, _, rfl, kx_Rl_e hR⟩
          · exact absurd m13 hp
      · exact absurd h23 hp
  · refine kx_two (by decide) (Nat.le_of_ble_eq_true rfl) (by decide) (Nat.le_of_ble_eq_true rfl) ?_
    refine kx_st 0 (pc' := 0) (L' := [some (.ref 0), some (.int a), some (.int b), some (.int c), none]) (st' := []) (h' := kv_wd g w) rfl ?_
    refine kx_st 3 (pc' := 5) (L' := [some (.ref 0), some (.int a), some (.int b), some (.int c), none]) (st' := [.int a, .ref 1]) (h' := kv_wd g w) rfl ?_
    refine kx_call (z := 17) (as := [.ref 1, .int a]) (rest := []) (v := some (.null)) (h1 := kv_wd g w) rfl (ev_knotAt_n (d := 898) (g := g) a (by rw [d1]; exact hv)) ?_
    refine kx_st 0 (pc' := 8) (L' := [some (.ref 0), some (.int a), some (.int b), some (.int c), none]) (st' := [.null]) (h' := kv_wd g w) rfl ?_
    refine kx_st 2 (pc' := 12) (L' := [some (.ref 0), some (.int a), some (.int b), some (.int c), some (.null)]) (st' := [.null]) (h' := kv_wd g w) rfl ?_
    refine kx_st 1 (pc' := 34) (L' := [some (.ref 0), some (.int a), some (.int b), some (.int c), some (.null)]) (st' := []) (h' := kv_wd g w) rfl ?_
    refine kx_st 2 (pc' := 36) (L' := [some (.ref 0), some (.int a), some (.int b), some (.int c), some (.null)]) (st' := [.int 1, .ref 0]) (h' := kv_wd g w) rfl ?_
    refine kx_call (z := 123) (as := [.ref 0, .int 1]) (rest := []) (v := some (.int (-1000000000 - nI 1))) (h1 := kv_wd (kv_up g 64 1 (g 64 1 + 1)) w) rfl (ev_error (d := 898) 1 (by decide) (by decide)) ?_
    refine kx_st 0 (pc' := 39) (L' := [some (.ref 0), some (.int a), some (.int b), some (.int c), some (.null)]) (st' := [.int (-1000000000 - nI 1)]) (h' := kv_wd (kv_up g 64 1 (g 64 1 + 1)) w) rfl ?_
    refine kx_ret (v := some (.int (-1000000000 - nI 1))) rfl ?_
    refine ⟨_, _, _, rfl, rfl, ?_⟩
    refine kx_st 0 (pc' := 0) (L' := [some (.ref 65), some (.int a), some (.int b), some (.int c)]) (st' := []) (h' := kv_wd (kv_up g 64 1 (g 64 1 + 1)) w) rfl ?_
    refine kx_st 2 (pc' := 2) (L' := [some (.ref 65), some (.int a), some (.int b), some (.int c)]) (st' := [.int a, .ref 65]) (h' := kv_wd (kv_up g 64 1 (g 64 1 + 1)) w) rfl ?_
    refine kx_call (z := 139) (as := [.ref 65, .int a]) (rest := []) (v := some (.int (kx_b (0 ≤ a ∧ a < nI m)))) (h1 := kv_wd (kv_up g 64 1 (g 64 1 + 1)) w) rfl (ev_mKnotS (d := 897) (g := kv_up g 64 1 (g 64 1 + 1)) (s := m) (by first | exact d2 | (rw [kv_up_ne (by omega)]; exact d2)) a4 a) ?_
    refine kx_st 0 (pc' := 5) (L' := [some (.ref 65), some (.int a), some (.int b), some (.int c)]) (st' := [.int (kx_b (0 ≤ a ∧ a < nI m))]) (h' := kv_wd (kv_up g 64 1 (g 64 1 + 1)) w) rfl ?_
    refine kx_be (t := 25) rfl rfl (fun (m5 : ¬ (0 ≤ a ∧ a < nI m)) => ?_) (fun (m5 : (0 ≤ a ∧ a < nI m)) => ?_)
    · refine kx_st 2 (pc' := 28) (L' := [some (.ref 65), some (.int a), some (.int b), some (.int c)]) (st' := [.int (-1000000001), .ref 65]) (h' := kv_wd (kv_up g 64 1 (g 64 1 + 1)) w) rfl ?_
      refine kx_call (z := 131) (as := [.ref 65, .int (-1000000001)]) (rest := []) (v := some (.int (-1000000001))) (h1 := kv_wd (kv_up (kv_up g 64 1 (g 64 1 + 1)) 70 1 ((kv_up g 64 1 (g 64 1 + 1)) 70 1 + 1)) w) rfl (ev_errs (d := 898) (-1000000001) 1 (by decide) (by decide)) ?_
      refine kx_st 0 (pc' := 31) (L' := [some (.ref 65), some (.int a), some (.int b), some (.int c)]) (st' := [.int (-1000000001)]) (h' := kv_wd (kv_up (kv_up g 64 1 (g 64 1 + 1)) 70 1 ((kv_up g 64 1 (g 64 1 + 1)) 70 1 + 1)) w) rfl ?_
      refine kx_ret (v := some (.int (-1000000001))) rfl ?_
      exact ⟨rfl, _, _, rfl, kx_Rl_e hR⟩
    · exact absurd m5 hv
set_option maxRecDepth 100000 in
theorem pr_pair {E : kv_V} (a b : Int32) : kx_ok2 E (kx_Rl kx_L) 100 190 [.int a, .int b] := by
  intro g w i hR hi
  obtain ⟨F0, F1, s, t, m, K, hF0, hF1, hX, hM, hKB, hKe⟩ := kx_Rl_XMK hR
  obtain ⟨q0, hq0, hm0, hb0, hy0⟩ := kx_Rl_q hR
  have q := hR.1
  have b1 := hX.2.1.1
  have b2 := hM.2.1.1
  have a1 := hX.1.1
  have a2 := hX.1.2.1
  have a4 := hX.1.2.2.2
  have d1 := hX.2.1.2.2
  have d2 := hM.2.1.2
  by_cases hv : 0 ≤ a ∧ a < nI m
  · obtain ⟨k, hkm, rfl⟩ := kx_nIlt hv.1 hv.2 (by omega)
    have hk8 : k < 8 := by omega
    have hK := hKB k hkm
    have kk : ∀ c, c < 9 → g (14 + k) c = K k c := hX.2.2.2.2 k hkm
    by_cases hc : 0 ≤ b ∧ b ≤ 1
    · have hnr := kx_nr_ge (F1 := F1) (t := t) (q := q0) (K := K k) a2 36 (by omega)
      rcases hnr with ⟨n1, -⟩ | ⟨x, y, hx, hy, hxy, hcn, n5⟩
      · refine kx_two (by decide) (Nat.le_of_ble_eq_true rfl) (by decide) (Nat.le_of_ble_eq_true rfl) ?_
        refine kx_st 0 (pc' := 0) (L' := [some (.ref 0), some (.int (nI k)), some (.int b), none, none]) (st' := []) (h' := kv_wd g w) rfl ?_
        refine kx_st 3 (pc' := 5) (L' := [some (.ref 0), some (.int (nI k)), some (.int b), none, none]) (st' := [.int (nI k), .ref 1]) (h' := kv_wd g w) rfl ?_
        refine kx_call (z := 17) (as := [.ref 1, .int (nI k)]) (rest := []) (v := some (.ref (14 + k))) (h1 := kv_wd g w) rfl (ev_knotAt (d := 898) (g := g) q k hk8 (by rw [d1]; exact nI_lt hkm (by omega))) ?_
        refine kx_st 0 (pc' := 8) (L' := [some (.ref 0), some (.int (nI k)), some (.int b), none, none]) (st' := [.ref (14 + k)]) (h' := kv_wd g w) rfl ?_
        refine kx_st 2 (pc' := 10) (L' := [some (.ref 0), some (.int (nI k)), some (.int b), some (.ref (14 + k)), none]) (st' := [.ref (14 + k)]) (h' := kv_wd g w) rfl ?_
        refine kx_st 1 (pc' := 13) (L' := [some (.ref 0), some (.int (nI k)), some (.int b), some (.ref (14 + k)), none]) (st' := []) (h' := kv_wd g w) rfl ?_
        refine kx_st 2 (pc' := 15) (L' := [some (.ref 0), some (.int (nI k)), some (.int b), some (.ref (14 + k)), none]) (st' := [.int 1, .int b]) (h' := kv_wd g w) rfl ?_
        refine kx_call (z := 124) (as := [.int b, .int 1]) (rest := []) (v := some (.int (kx_b (0 ≤ b ∧ b ≤ 1)))) (h1 := kv_wd g w) rfl (ev_within (d := 898) b 1) ?_
        refine kx_st 0 (pc' := 18) (L' := [some (.ref 0), some (.int (nI k)), some (.int b), some (.ref (14 + k)), none]) (st' := [.int (kx_b (0 ≤ b ∧ b ≤ 1))]) (h' := kv_wd g w) rfl ?_
        refine kx_bn (t := 27) rfl rfl (fun (h18 : (0 ≤ b ∧ b ≤ 1)) => ?_) (fun (h18 : ¬ (0 ≤ b ∧ b ≤ 1)) => ?_)
        · refine kx_st 5 (pc' := 36) (L' := [some (.ref 0), some (.int (nI k)), some (.int b), some (.ref (14 + k)), none]) (st' := [.int 0, .ref 1, .ref 43]) (h' := kv_wd g w) rfl ?_
          obtain ⟨g36, e36, q36, r36⟩ := ev_goBehind (E := E) (d := 891) (w := w) hX q0 hq0 0 (by omega)
          have X36 : kx_X F0 F1 s t m K g36 := kx_X_cg (fun b hb => r36 b (by omega) (by omega) (by omega) (by omega)) hX
          have M36 : kx_M F0 F1 s t m K (g36 66) := by rw [r36 66 (by omega) (by omega) (by omega) (by omega)]; exact hM
          have m36 : kx_hmq (g36 66) q0 := by rw [r36 66 (by omega) (by omega) (by omega) (by omega)]; exact hm0
          refine kx_call (z := 60) (as := [.ref 43, .ref 1, .int 0]) (rest := []) (v := none) (h1 := kv_wd g36 w) rfl e36 ?_
          refine kx_st 0 (pc' := 39) (L' := [some (.ref 0), some (.int (nI k)), some (.int b), some (.ref (14 + k)), none]) (st' := []) (h' := kv_wd g36 w) rfl ?_
          refine kx_st 5 (pc' := 48) (L' := [some (.ref 0), some (.int (nI k)), some (.int b), some (.ref (14 + k)), none]) (st' := [.ref (14 + k), .ref 1, .ref 43]) (h' := kv_wd g36 w) rfl ?_
          obtain ⟨f48, e48⟩ := ev_nearestPair (E := E) (d := 890) (g := g36) (w := w) X36 q0 q36 hb0 k hkm hK
          refine kx_call (z := 65) (as := [.ref 43, .ref 1, .ref (14 + k)]) (rest := []) (v := some (.int (-1))) (h1 := kv_wd (kv_uf g36 11 f48) w) rfl (by rw [← n1]; exact e48) ?_
          refine kx_st 0 (pc' := 51) (L' := [some (.ref 0), some (.int (nI k)), some (.int b), some (.ref (14 + k)), none]) (st' := [.int (-1)]) (h' := kv_wd (kv_uf g36 11 f48) w) rfl ?_
          refine kx_st 2 (pc' := 55) (L' := [some (.ref 0), some (.int (nI k)), some (.int b), some (.ref (14 + k)), some (.int (-1))]) (st' := [.int (-1)]) (h' := kv_wd (kv_uf g36 11 f48) w) rfl ?_
          refine kx_st 1 (pc' := 58) (L' := [some (.ref 0), some (.int (nI k)), some (.int b), some (.ref (14 + k)), some (.int (-1))]) (st' := []) (h' := kv_wd (kv_uf g36 11 f48) w) rfl ?_
          refine kx_st 2 (pc' := 60) (L' := [some (.ref 0), some (.int (nI k)), some (.int b), some (.ref (14 + k)), some (.int (-1))]) (st' := [.int 2, .ref 0]) (h' := kv_wd (kv_uf g36 11 f48) w) rfl ?_
          refine kx_call (z := 123) (as := [.ref 0, .int 2]) (rest := []) (v := some (.int (-1000000000 - nI 2))) (h1 := kv_wd (kv_up (kv_uf g36 11 f48) 64 2 ((kv_uf g36 11 f48) 64 2 + 1)) w) rfl (ev_error (d := 898) 2 (by decide) (by decide)) ?_
          refine kx_st 0 (pc' := 63) (L' := [some (.ref 0), some (.int (nI k)), some (.int b), some (.ref (14 + k)), some (.int (-1))]) (st' := [.int (-1000000000 - nI 2)]) (h' := kv_wd (kv_up (kv_uf g36 11 f48) 64 2 ((kv_uf g36 11 f48) 64 2 + 1)) w) rfl ?_
          refine kx_ret (v := some (.int (-1000000000 - nI 2))) rfl ?_
          refine ⟨_, _, _, rfl, rfl, ?_⟩
          refine kx_st 0 (pc' := 0) (L' := [some (.ref 65), some (.int (nI k)), some (.int b), none]) (st' := []) (h' := kv_wd (kv_up (kv_uf g36 11 f48) 64 2 ((kv_uf g36 11 f48) 64 2 + 1)) w) rfl ?_
          refine kx_st 2 (pc' := 2) (L' := [some (.ref 65), some (.int (nI k)), some (.int b), none]) (st' := [.int (nI k), .ref 65]) (h' := kv_wd (kv_up (kv_uf g36 11 f48) 64 2 ((kv_uf g36 11 f48) 64 2 + 1)) w) rfl ?_
          refine kx_call (z := 139) (as := [.ref 65, .int (nI k)]) (rest := []) (v := some (.int (kx_b (0 ≤ nI k ∧ nI k < nI m)))) (h1 := kv_wd (kv_up (kv_uf g36 11 f48) 64 2 ((kv_uf g36 11 f48) 64 2 + 1)) w) rfl (ev_mKnotS (d := 897) (g := kv_up (kv_uf g36 11 f48) 64 2 ((kv_uf g36 11 f48) 64 2 + 1)) (s := m) M36.2.1.2 a4 (nI k)) ?_
          refine kx_st 0 (pc' := 5) (L' := [some (.ref 65), some (.int (nI k)), some (.int b), none]) (st' := [.int (kx_b (0 ≤ nI k ∧ nI k < nI m))]) (h' := kv_wd (kv_up (kv_uf g36 11 f48) 64 2 ((kv_uf g36 11 f48) 64 2 + 1)) w) rfl ?_
          refine kx_be (t := 17) rfl rfl (fun (m5 : ¬ (0 ≤ nI k ∧ nI k < nI m)) => ?_) (fun (m5 : (0 ≤ nI k ∧ nI k < nI m)) => ?_)
          · exact absurd hv m5
          · refine kx_st 0 (pc' := 8) (L' := [some (.ref 65), some (.int (nI k)), some (.int b), none]) (st' := []) (h' := kv_wd (kv_up (kv_uf g36 11 f48) 64 2 ((kv_uf g36 11 f48) 64 2 + 1)) w) rfl ?_
            refine kx_st 3 (pc' := 11) (L' := [some (.ref 65), some (.int (nI k)), some (.int b), none]) (st' := [.int 1, .int 0, .int b]) (h' := kv_wd (kv_up (kv_uf g36 11 f48) 64 2 ((kv_uf g36 11 f48) 64 2 + 1)) w) rfl ?_
            refine kx_call (z := 130) (as := [.int b, .int 0, .int 1]) (rest := []) (v := some (.int (kx_b (0 ≤ b ∧ b ≤ 1)))) (h1 := kv_wd (kv_up (kv_uf g36 11 f48) 64 2 ((kv_uf g36 11 f48) 64 2 + 1)) w) rfl (ev_in (d := 898) b 0 1) ?_
            refine kx_st 0 (pc' := 14) (L' := [some (.ref 65), some (.int (nI k)), some (.int b), none]) (st' := [.int (kx_b (0 ≤ b ∧ b ≤ 1))]) (h' := kv_wd (kv_up (kv_uf g36 11 f48) 64 2 ((kv_uf g36 11 f48) 64 2 + 1)) w) rfl ?_
            refine kx_bn (t := 24) rfl rfl (fun (m14 : (0 ≤ b ∧ b ≤ 1)) => ?_) (fun (m14 : ¬ (0 ≤ b ∧ b ≤ 1)) => ?_)
            · refine kx_st 2 (pc' := 26) (L' := [some (.ref 65), some (.int (nI k)), some (.int b), none]) (st' := [.int (nI k), .ref 65]) (h' := kv_wd (kv_up (kv_uf g36 11 f48) 64 2 ((kv_uf g36 11 f48) 64 2 + 1)) w) rfl ?_
              obtain ⟨f26, k26, e26⟩ := ev_mnearest (E := E) (d := 797) (g := kv_up (kv_uf g36 11 f48) 64 2 ((kv_uf g36 11 f48) 64 2 + 1)) (w := w) M36 q0 m36 k hkm hK
              refine kx_call (z := 176) (as := [.ref 65, .int (nI k)]) (rest := []) (v := some (.int (-1))) (h1 := kv_wd (kv_uf (kv_up (kv_uf g36 11 f48) 64 2 ((kv_uf g36 11 f48) 64 2 + 1)) 65 f26) w) rfl (by rw [← n1]; exact e26) ?_
              refine kx_st 0 (pc' := 29) (L' := [some (.ref 65), some (.int (nI k)), some (.int b), none]) (st' := [.int (-1)]) (h' := kv_wd (kv_uf (kv_up (kv_uf g36 11 f48) 64 2 ((kv_uf g36 11 f48) 64 2 + 1)) 65 f26) w) rfl ?_
              refine kx_st 2 (pc' := 31) (L' := [some (.ref 65), some (.int (nI k)), some (.int b), some (.int (-1))]) (st' := [.int (-1)]) (h' := kv_wd (kv_uf (kv_up (kv_uf g36 11 f48) 64 2 ((kv_uf g36 11 f48) 64 2 + 1)) 65 f26) w) rfl ?_
              refine kx_st 1 (pc' := 34) (L' := [some (.ref 65), some (.int (nI k)), some (.int b), some (.int (-1))]) (st' := []) (h' := kv_wd (kv_uf (kv_up (kv_uf g36 11 f48) 64 2 ((kv_uf g36 11 f48) 64 2 + 1)) 65 f26) w) rfl ?_
              refine kx_st 2 (pc' := 37) (L' := [some (.ref 65), some (.int (nI k)), some (.int b), some (.int (-1))]) (st' := [.int (-1000000002), .ref 65]) (h' := kv_wd (kv_uf (kv_up (kv_uf g36 11 f48) 64 2 ((kv_uf g36 11 f48) 64 2 + 1)) 65 f26) w) rfl ?_
              refine kx_call (z := 131) (as := [.ref 65, .int (-1000000002)]) (rest := []) (v := some (.int (-1000000002))) (h1 := kv_wd (kv_up (kv_uf (kv_up (kv_uf g36 11 f48) 64 2 ((kv_uf g36 11 f48) 64 2 + 1)) 65 f26) 70 2 ((kv_uf (kv_up (kv_uf g36 11 f48) 64 2 ((kv_uf g36 11 f48) 64 2 + 1)) 65 f26) 70 2 + 1)) w) rfl (ev_errs (d := 898) (-1000000002) 2 (by decide) (by decide)) ?_
              refine kx_st 0 (pc' := 40) (L' := [some (.ref 65), some (.int (nI k)), some (.int b), some (.int (-1))]) (st' := [.int (-1000000002)]) (h' := kv_wd (kv_up (kv_uf (kv_up (kv_uf g36 11 f48) 64 2 ((kv_uf g36 11 f48) 64 2 + 1)) 65 f26) 70 2 ((kv_uf (kv_up (kv_uf g36 11 f48) 64 2 ((kv_uf g36 11 f48) 64 2 + 1)) 65 f26) 70 2 + 1)) w) rfl ?_
              refine kx_ret (v := some (.int (-1000000002))) rfl ?_
              refine ⟨rfl, _, _, rfl, kx_Rl_roe (k := 2) hR rfl (fun b h8 h11 h4 h64 h65 h66 h68 h69 h70 => (by rw [kv_up_ne h70, kv_uf_ne h65, kv_up_ne h64, kv_uf_ne h11]; exact r36 b h8 (by omega) (by omega) (by omega))) (fun z hz => (k26 z hz).trans (congrFun (r36 65 (by omega) (by omega) (by omega) (by omega)) z)) (fun j hj => congrFun (r36 66 (by omega) (by omega) (by omega) (by omega)) j) ?_ ?_⟩
              · show upd (g36 64) 2 (g36 64 2 + 1) = _
                rw [r36 64 (by omega) (by omega) (by omega) (by omega)]
              · show upd (g36 70) 2 (g36 70 2 + 1) = _
                rw [r36 70 (by omega) (by omega) (by omega) (by omega)]
            · exact absurd hc m14
        · exact absurd hc h18
      · obtain ⟨e10, e11⟩ := kx_d10 (10 * x + y) (by omega)
        rw [show (10 * x + y) / 10 = x by omega] at e10
        rw [show (10 * x + y) % 10 = y by omega] at e11
        rcases kx_b1 hc with rfl | rfl
        · refine kx_two (by decide) (Nat.le_of_ble_eq_true rfl) (by decide) (Nat.le_of_ble_eq_true rfl) ?_
          refine kx_st 0 (pc' := 0) (L' := [some (.ref 0), some (.int (nI k)), some (.int 0), none, none]) (st' := []) (h' := kv_wd g w) rfl ?_
          refine kx_st 3 (pc' := 5) (L' := [some (.ref 0), some (.int (nI k)), some (.int 0), none, none]) (st' := [.int (nI k), .ref 1]) (h' := kv_wd g w) rfl ?_
          refine kx_call (z := 17) (as := [.ref 1, .int (nI k)]) (rest := []) (v := some (.ref (14 + k))) (h1 := kv_wd g w) rfl (ev_knotAt (d := 898) (g := g) q k hk8 (by rw [d1]; exact nI_lt hkm (by omega))) ?_
          refine kx_st 0 (pc' := 8) (L' := [some (.ref 0), some (.int (nI k)), some (.int 0), none, none]) (st' := [.ref (14 + k)]) (h' := kv_wd g w) rfl ?_
          refine kx_st 2 (pc' := 10) (L' := [some (.ref 0), some (.int (nI k)), some (.int 0), some (.ref (14 + k)), none]) (st' := [.ref (14 + k)]) (h' := kv_wd g w) rfl ?_
          refine kx_st 1 (pc' := 13) (L' := [some (.ref 0), some (.int (nI k)), some (.int 0), some (.ref (14 + k)), none]) (st' := []) (h' := kv_wd g w) rfl ?_
          refine kx_st 2 (pc' := 15) (L' := [some (.ref 0), some (.int (nI k)), some (.int 0), some (.ref (14 + k)), none]) (st' := [.int 1, .int 0]) (h' := kv_wd g w) rfl ?_
          refine kx_call (z := 124) (as := [.int 0, .int 1]) (rest := []) (v := some (.int (kx_b (0 ≤ (0 : Int32) ∧ (0 : Int32) ≤ 1)))) (h1 := kv_wd g w) rfl (ev_within (d := 898) 0 1) ?_
          refine kx_st 0 (pc' := 18) (L' := [some (.ref 0), some (.int (nI k)), some (.int 0), some (.ref (14 + k)), none]) (st' := [.int (kx_b (0 ≤ (0 : Int32) ∧ (0 : Int32) ≤ 1))]) (h' := kv_wd g w) rfl ?_
          refine kx_bn (t := 27) rfl rfl (fun (h18 : (0 ≤ (0 : Int32) ∧ (0 : Int32) ≤ 1)) => ?_) (fun (h18 : ¬ (0 ≤ (0 : Int32) ∧ (0 : Int32) ≤ 1)) => ?_)
          · refine kx_st 5 (pc' := 36) (L' := [some (.ref 0), some (.int (nI k)), some (.int 0), some (.ref (14 + k)), none]) (st' := [.int 0, .ref 1, .ref 43]) (h' := kv_wd g w) rfl ?_
            obtain ⟨g36, e36, q36, r36⟩ := ev_goBehind (E := E) (d := 891) (w := w) hX q0 hq0 0 (by omega)
            have X36 : kx_X F0 F1 s t m K g36 := kx_X_cg (fun b hb => r36 b (by omega) (by omega) (by omega) (by omega)) hX
            have M36 : kx_M F0 F1 s t m K (g36 66) := by rw [r36 66 (by omega) (by omega) (by omega) (by omega)]; exact hM
            have m36 : kx_hmq (g36 66) q0 := by rw [r36 66 (by omega) (by omega) (by omega) (by omega)]; exact hm0
            refine kx_call (z := 60) (as := [.ref 43, .ref 1, .int 0]) (rest := []) (v := none) (h1 := kv_wd g36 w) rfl e36 ?_
            refine kx_st 0 (pc' := 39) (L' := [some (.ref 0), some (.int (nI k)), some (.int 0), some (.ref (14 + k)), none]) (st' := []) (h' := kv_wd g36 w) rfl ?_
            refine kx_st 5 (pc' := 48) (L' := [some (.ref 0), some (.int (nI k)), some (.int 0), some (.ref (14 + k)), none]) (st' := [.ref (14 + k), .ref 1, .ref 43]) (h' := kv_wd g36 w) rfl ?_
            obtain ⟨f48, e48⟩ := ev_nearestPair (E := E) (d := 890) (g := g36) (w := w) X36 q0 q36 hb0 k hkm hK
            refine kx_call (z := 65) (as := [.ref 43, .ref 1, .ref (14 + k)]) (rest := []) (v := some (.int (nI (10 * x + y)))) (h1 := kv_wd (kv_uf g36 11 f48) w) rfl (by rw [← n5]; exact e48) ?_
            refine kx_st 0 (pc' := 51) (L' := [some (.ref 0), some (.int (nI k)), some (.int 0), some (.ref (14 + k)), none]) (st' := [.int (nI (10 * x + y))]) (h' := kv_wd (kv_uf g36 11 f48) w) rfl ?_
            refine kx_st 2 (pc' := 55) (L' := [some (.ref 0), some (.int (nI k)), some (.int 0), some (.ref (14 + k)), some (.int (nI (10 * x + y)))]) (st' := [.int (nI (10 * x + y))]) (h' := kv_wd (kv_uf g36 11 f48) w) rfl ?_
            refine kx_bc (t := 64) rfl rfl (fun (h55 : 0 ≤ nI (10 * x + y)) => ?_) (fun (h55 : ¬ (0 ≤ nI (10 * x + y))) => ?_)
            · refine kx_st 1 (pc' := 65) (L' := [some (.ref 0), some (.int (nI k)), some (.int 0), some (.ref (14 + k)), some (.int (nI (10 * x + y)))]) (st' := [.int 0]) (h' := kv_wd (kv_uf g36 11 f48) w) rfl ?_
              refine kx_st 1 (pc' := 68) (L' := [some (.ref 0), some (.int (nI k)), some (.int 0), some (.ref (14 + k)), some (.int (nI (10 * x + y)))]) (st' := []) (h' := kv_wd (kv_uf g36 11 f48) w) rfl ?_
              refine kx_st 2 (pc' := 94) (L' := [some (.ref 0), some (.int (nI k)), some (.int 0), some (.ref (14 + k)), some (.int (nI (10 * x + y)))]) (st' := [.int (nI (10 * x + y))]) (h' := kv_wd (kv_uf g36 11 f48) w) rfl ?_
              refine kx_ret (v := some (.int (nI (10 * x + y)))) rfl ?_
              refine ⟨_, _, _, rfl, rfl, ?_⟩
              refine kx_st 0 (pc' := 0) (L' := [some (.ref 65), some (.int (nI k)), some (.int 0), none]) (st' := []) (h' := kv_wd (kv_uf g36 11 f48) w) rfl ?_
              refine kx_st 2 (pc' := 2) (L' := [some (.ref 65), some (.int (nI k)), some (.int 0), none]) (st' := [.int (nI k), .ref 65]) (h' := kv_wd (kv_uf g36 11 f48) w) rfl ?_
              refine kx_call (z := 139) (as := [.ref 65, .int (nI k)]) (rest := []) (v := some (.int (kx_b (0 ≤ nI k ∧ nI k < nI m)))) (h1 := kv_wd (kv_uf g36 11 f48) w) rfl (ev_mKnotS (d := 897) (g := kv_uf g36 11 f48) (s := m) M36.2.1.2 a4 (nI k)) ?_
              refine kx_st 0 (pc' := 5) (L' := [some (.ref 65), some (.int (nI k)), some (.int 0), none]) (st' := [.int (kx_b (0 ≤ nI k ∧ nI k < nI m))]) (h' := kv_wd (kv_uf g36 11 f48) w) rfl ?_
              refine kx_be (t := 17) rfl rfl (fun (m5 : ¬ (0 ≤ nI k ∧ nI k < nI m)) => ?_) (fun (m5 : (0 ≤ nI k ∧ nI k < nI m)) => ?_)
              · exact absurd hv m5
              · refine kx_st 0 (pc' := 8) (L' := [some (.ref 65), some (.int (nI k)), some (.int 0), none]) (st' := []) (h' := kv_wd (kv_uf g36 11 f48) w) rfl ?_
                refine kx_st 3 (pc' := 11) (L' := [some (.ref 65), some (.int (nI k)), some (.int 0), none]) (st' := [.int 1, .int 0, .int 0]) (h' := kv_wd (kv_uf g36 11 f48) w) rfl ?_
                refine kx_call (z := 130) (as := [.int 0, .int 0, .int 1]) (rest := []) (v := some (.int (kx_b (0 ≤ (0 : Int32) ∧ (0 : Int32) ≤ 1)))) (h1 := kv_wd (kv_uf g36 11 f48) w) rfl (ev_in (d := 898) 0 0 1) ?_
                refine kx_st 0 (pc' := 14) (L' := [some (.ref 65), some (.int (nI k)), some (.int 0), none]) (st' := [.int (kx_b (0 ≤ (0 : Int32) ∧ (0 : Int32) ≤ 1))]) (h' := kv_wd (kv_uf g36 11 f48) w) rfl ?_
                refine kx_bn (t := 24) rfl rfl (fun (m14 : (0 ≤ (0 : Int32) ∧ (0 : Int32) ≤ 1)) => ?_) (fun (m14 : ¬ (0 ≤ (0 : Int32) ∧ (0 : Int32) ≤ 1)) => ?_)
                · refine kx_st 2 (pc' := 26) (L' := [some (.ref 65), some (.int (nI k)), some (.int 0), none]) (st' := [.int (nI k), .ref 65]) (h' := kv_wd (kv_uf g36 11 f48) w) rfl ?_
                  obtain ⟨f26, k26, e26⟩ := ev_mnearest (E := E) (d := 797) (g := kv_uf g36 11 f48) (w := w) M36 q0 m36 k hkm hK
                  refine kx_call (z := 176) (as := [.ref 65, .int (nI k)]) (rest := []) (v := some (.int (nI (10 * x + y)))) (h1 := kv_wd (kv_uf (kv_uf g36 11 f48) 65 f26) w) rfl (by rw [← n5]; exact e26) ?_
                  refine kx_st 0 (pc' := 29) (L' := [some (.ref 65), some (.int (nI k)), some (.int 0), none]) (st' := [.int (nI (10 * x + y))]) (h' := kv_wd (kv_uf (kv_uf g36 11 f48) 65 f26) w) rfl ?_
                  refine kx_st 2 (pc' := 31) (L' := [some (.ref 65), some (.int (nI k)), some (.int 0), some (.int (nI (10 * x + y)))]) (st' := [.int (nI (10 * x + y))]) (h' := kv_wd (kv_uf (kv_uf g36 11 f48) 65 f26) w) rfl ?_
                  refine kx_bc (t := 41) rfl rfl (fun (m31 : 0 ≤ nI (10 * x + y)) => ?_) (fun (m31 : ¬ (0 ≤ nI (10 * x + y))) => ?_)
                  · refine kx_st 1 (pc' := 42) (L' := [some (.ref 65), some (.int (nI k)), some (.int 0), some (.int (nI (10 * x + y)))]) (st' := [.int 0]) (h' := kv_wd (kv_uf (kv_uf g36 11 f48) 65 f26) w) rfl ?_
                    refine kx_st 1 (pc' := 45) (L' := [some (.ref 65), some (.int (nI k)), some (.int 0), some (.int (nI (10 * x + y)))]) (st' := []) (h' := kv_wd (kv_uf (kv_uf g36 11 f48) 65 f26) w) rfl ?_
                    refine kx_st 2 (pc' := 62) (L' := [some (.ref 65), some (.int (nI k)), some (.int 0), some (.int (nI (10 * x + y)))]) (st' := [.int (nI (10 * x + y))]) (h' := kv_wd (kv_uf (kv_uf g36 11 f48) 65 f26) w) rfl ?_
                    refine kx_ret (v := some (.int (nI (10 * x + y)))) rfl ?_
                    exact ⟨rfl, _, _, rfl, kx_Rl_skip _ _ _ _ (kx_Rl_ro hR rfl (fun b h8 h11 h4 h65 h66 h68 h69 => (by rw [kv_uf_ne h65, kv_uf_ne h11]; exact r36 b h8 (by omega) (by omega) (by omega))) (fun z hz => (k26 z hz).trans (congrFun (r36 65 (by omega) (by omega) (by omega) (by omega)) z)) (fun j hj => congrFun (r36 66 (by omega) (by omega) (by omega) (by omega)) j))⟩
                  · exact absurd (nI_pos' (by omega)) m31
                · exact absurd hc m14
            · exact absurd (nI_pos' (by omega)) h55
          · exact absurd hc h18
        · refine kx_two (by decide) (Nat.le_of_ble_eq_true rfl) (by decide) (Nat.le_of_ble_eq_true rfl) ?_
          refine kx_st 0 (pc' := 0) (L' := [some (.ref 0), some (.int (nI k)), some (.int 1), none, none]) (st' := []) (h' := kv_wd g w) rfl ?_
          refine kx_st 3 (pc' := 5) (L' := [some (.ref 0), some (.int (nI k)), some (.int 1), none, none]) (st' := [.int (nI k), .ref 1]) (h' := kv_wd g w) rfl ?_
          refine kx_call (z := 17) (as := [.ref 1, .int (nI k)]) (rest := []) (v := some (.ref (14 + k))) (h1 := kv_wd g w) rfl (ev_knotAt (d := 898) (g := g) q k hk8 (by rw [d1]; exact nI_lt hkm (by omega))) ?_
          refine kx_st 0 (pc' := 8) (L' := [some (.ref 0), some (.int (nI k)), some (.int 1), none, none]) (st' := [.ref (14 + k)]) (h' := kv_wd g w) rfl ?_
          refine kx_st 2 (pc' := 10) (L' := [some (.ref 0), some (.int (nI k)), some (.int 1), some (.ref (14 + k)), none]) (st' := [.ref (14 + k)]) (h' := kv_wd g w) rfl ?_
          refine kx_st 1 (pc' := 13) (L' := [some (.ref 0), some (.int (nI k)), some (.int 1), some (.ref (14 + k)), none]) (st' := []) (h' := kv_wd g w) rfl ?_
          refine kx_st 2 (pc' := 15) (L' := [some (.ref 0), some (.int (nI k)), some (.int 1), some (.ref (14 + k)), none]) (st' := [.int 1, .int 1]) (h' := kv_wd g w) rfl ?_
          refine kx_call (z := 124) (as := [.int 1, .int 1]) (rest := []) (v := some (.int (kx_b (0 ≤ (1 : Int32) ∧ (1 : Int32) ≤ 1)))) (h1 := kv_wd g w) rfl (ev_within (d := 898) 1 1) ?_
          refine kx_st 0 (pc' := 18) (L' := [some (.ref 0), some (.int (nI k)), some (.int 1), some (.ref (14 + k)), none]) (st' := [.int (kx_b (0 ≤ (1 : Int32) ∧ (1 : Int32) ≤ 1))]) (h' := kv_wd g w) rfl ?_
          refine kx_bn (t := 27) rfl rfl (fun (h18 : (0 ≤ (1 : Int32) ∧ (1 : Int32) ≤ 1)) => ?_) (fun (h18 : ¬ (0 ≤ (1 : Int32) ∧ (1 : Int32) ≤ 1)) => ?_)
          · refine kx_st 5 (pc' := 36) (L' := [some (.ref 0), some (.int (nI k)), some (.int 1), some (.ref (14 + k)), none]) (st' := [.int 0, .ref 1, .ref 43]) (h' := kv_wd g w) rfl ?_
            obtain ⟨g36, e36, q36, r36⟩ := ev_goBehind (E := E) (d := 891) (w := w) hX q0 hq0 0 (by omega)
            have X36 : kx_X F0 F1 s t m K g36 := kx_X_cg (fun b hb => r36 b (by omega) (by omega) (by omega) (by omega)) hX
            have M36 : kx_M F0 F1 s t m K (g36 66) := by rw [r36 66 (by omega) (by omega) (by omega) (by omega)]; exact hM
            have m36 : kx_hmq (g36 66) q0 := by rw [r36 66 (by omega) (by omega) (by omega) (by omega)]; exact hm0
            refine kx_call (z := 60) (as := [.ref 43, .ref 1, .int 0]) (rest := []) (v := none) (h1 := kv_wd g36 w) rfl e36 ?_
            refine kx_st 0 (pc' := 39) (L' := [some (.ref 0), some (.int (nI k)), some (.int 1), some (.ref (14 + k)), none]) (st' := []) (h' := kv_wd g36 w) rfl ?_
            refine kx_st 5 (pc' := 48) (L' := [some (.ref 0), some (.int (nI k)), some (.int 1), some (.ref (14 + k)), none]) (st' := [.ref (14 + k), .ref 1, .ref 43]) (h' := kv_wd g36 w) rfl ?_
            obtain ⟨f48, e48⟩ := ev_nearestPair (E := E) (d := 890) (g := g36) (w := w) X36 q0 q36 hb0 k hkm hK
            refine kx_call (z := 65) (as := [.ref 43, .ref 1, .ref (14 + k)]) (rest := []) (v := some (.int (nI (10 * x + y)))) (h1 := kv_wd (kv_uf g36 11 f48) w) rfl (by rw [← n5]; exact e48) ?_
            refine kx_st 0 (pc' := 51) (L' := [some (.ref 0), some (.int (nI k)), some (.int 1), some (.ref (14 + k)), none]) (st' := [.int (nI (10 * x + y))]) (h' := kv_wd (kv_uf g36 11 f48) w) rfl ?_
            refine kx_st 2 (pc' := 55) (L' := [some (.ref 0), some (.int (nI k)), some (.int 1), some (.ref (14 + k)), some (.int (nI (10 * x + y)))]) (st' := [.int (nI (10 * x + y))]) (h' := kv_wd (kv_uf g36 11 f48) w) rfl ?_
            refine kx_bc (t := 64) rfl rfl (fun (h55 : 0 ≤ nI (10 * x + y)) => ?_) (fun (h55 : ¬ (0 ≤ nI (10 * x + y))) => ?_)
            · refine kx_st 1 (pc' := 65) (L' := [some (.ref 0), some (.int (nI k)), some (.int 1), some (.ref (14 + k)), some (.int (nI (10 * x + y)))]) (st' := [.int 1]) (h' := kv_wd (kv_uf g36 11 f48) w) rfl ?_
              refine kx_st 1 (pc' := 73) (L' := [some (.ref 0), some (.int (nI k)), some (.int 1), some (.ref (14 + k)), some (.int (nI (10 * x + y)))]) (st' := []) (h' := kv_wd (kv_uf g36 11 f48) w) rfl ?_
              refine kx_st 6 (pc' := 85) (L' := [some (.ref 0), some (.int (nI k)), some (.int 1), some (.ref (14 + k)), some (.int (nI (10 * x + y)))]) (st' := [.int 10, .int (nI (10 * x + y)), .ref 2, .ref (14 + k)]) (h' := kv_wd (kv_uf g36 11 f48) w) rfl ?_
              refine kx_dv rfl (by decide) ?_
              refine kx_st 2 (pc' := 90) (L' := [some (.ref 0), some (.int (nI k)), some (.int 1), some (.ref (14 + k)), some (.int (nI (10 * x + y)))]) (st' := [.int 10, .int (nI (10 * x + y)), .int ((nI (10 * x + y)) / 10), .ref 2, .ref (14 + k)]) (h' := kv_wd (kv_uf g36 11 f48) w) rfl ?_
              refine kx_rm rfl (by decide) ?_
              have G : ∀ b, b ≠ 8 → b ≠ 11 → (b < 44 ∨ 52 < b) → (kv_uf g36 11 f48) b = g b := fun b h8 h11 h4 => (kv_uf_ne h11).trans (r36 b h8 (by omega) (by omega) (by omega))
              have e1 : kx_ms ((kv_uf g36 11 f48) 4 x + (kv_uf g36 11 f48) 3 y) ((kv_uf g36 11 f48) (14 + k) 4) = kx_mq q0 (K k) x y := by rw [G 4 (by omega) (by omega) (by omega), G 3 (by omega) (by omega) (by omega), G (14 + k) (by omega) (by omega) (by omega), (hq0.1 x (by omega)).2, (hq0.1 y (by omega)).1, kk 4 (by omega)]; rfl
              have em := ev_misses (E := E) (d := 896) (g := kv_uf g36 11 f48) (w := w) kv_hd2 k hk8 x y (by omega) (by omega) (by obtain ⟨z, h1, h2⟩ := (hb0 x (by omega)).2; exact ⟨z, h1, by rw [G 4 (by omega) (by omega) (by omega)]; exact (hq0.1 x (by omega)).2.trans h2⟩) (by obtain ⟨z, h1, h2⟩ := (hb0 y (by omega)).1; exact ⟨z, h1, by rw [G 3 (by omega) (by omega) (by omega)]; exact (hq0.1 y (by omega)).1.trans h2⟩) (by obtain ⟨z, h1, h2⟩ := hK.2.2.2.2.1; exact ⟨z, h1, by rw [G (14 + k) (by omega) (by omega) (by omega)]; exact (kk 4 (by omega)).trans h2⟩)
              rw [e1] at em
              refine kx_call (z := 33) (as := [.ref (14 + k), .ref 2, .int ((nI (10 * x + y)) / 10), .int ((nI (10 * x + y)) % 10)]) (rest := []) (v := some (.int (kx_mq q0 (K k) x y))) (h1 := kv_wd (kv_uf g36 11 f48) w) (kx_cv (b := 14 + k) (A := [.ref 2, .int ((nI (10 * x + y)) / 10), .int ((nI (10 * x + y)) % 10)]) (rest := []) rfl rfl rfl rfl (Nat.le_of_ble_eq_true rfl) (kv_kn_h hk8).1 ((kv_kn_h hk8).2 _ _)) (by rw [e10, e11]; exact em) ?_
              refine kx_st 0 (pc' := 94) (L' := [some (.ref 0), some (.int (nI k)), some (.int 1), some (.ref (14 + k)), some (.int (nI (10 * x + y)))]) (st' := [.int (kx_mq q0 (K k) x y)]) (h' := kv_wd (kv_uf g36 11 f48) w) rfl ?_
              refine kx_ret (v := some (.int (kx_mq q0 (K k) x y))) rfl ?_
              refine ⟨_, _, _, rfl, rfl, ?_⟩
              refine kx_st 0 (pc' := 0) (L' := [some (.ref 65), some (.int (nI k)), some (.int 1), none]) (st' := []) (h' := kv_wd (kv_uf g36 11 f48) w) rfl ?_
              refine kx_st 2 (pc' := 2) (L' := [some (.ref 65), some (.int (nI k)), some (.int 1), none]) (st' := [.int (nI k), .ref 65]) (h' := kv_wd (kv_uf g36 11 f48) w) rfl ?_
              refine kx_call (z := 139) (as := [.ref 65, .int (nI k)]) (rest := []) (v := some (.int (kx_b (0 ≤ nI k ∧ nI k < nI m)))) (h1 := kv_wd (kv_uf g36 11 f48) w) rfl (ev_mKnotS (d := 897) (g := kv_uf g36 11 f48) (s := m) M36.2.1.2 a4 (nI k)) ?_
              refine kx_st 0 (pc' := 5) (L' := [some (.ref 65), some (.int (nI k)), some (.int 1), none]) (st' := [.int (kx_b (0 ≤ nI k ∧ nI k < nI m))]) (h' := kv_wd (kv_uf g36 11 f48) w) rfl ?_
              refine kx_be (t := 17) rfl rfl (fun (m5 : ¬ (0 ≤ nI k ∧ nI k < nI m)) => ?_) (fun (m5 : (0 ≤ nI k ∧ nI k < nI m)) => ?_)
              · exact absurd hv m5
              · refine kx_st 0 (pc' := 8) (L' := [some (.ref 65), some (.int (nI k)), some (.int 1), none]) (st' := []) (h' := kv_wd (kv_uf g36 11 f48) w) rfl ?_
                refine kx_st 3 (pc' := 11) (L' := [some (.ref 65), some (.int (nI k)), some (.int 1), none]) (st' := [.int 1, .int 0, .int 1]) (h' := kv_wd (kv_uf g36 11 f48) w) rfl ?_
                refine kx_call (z := 130) (as := [.int 1, .int 0, .int 1]) (rest := []) (v := some (.int (kx_b (0 ≤ (1 : Int32) ∧ (1 : Int32) ≤ 1)))) (h1 := kv_wd (kv_uf g36 11 f48) w) rfl (ev_in (d := 898) 1 0 1) ?_
                refine kx_st 0 (pc' := 14) (L' := [some (.ref 65), some (.int (nI k)), some (.int 1), none]) (st' := [.int (kx_b (0 ≤ (1 : Int32) ∧ (1 : Int32) ≤ 1))]) (h' := kv_wd (kv_uf g36 11 f48) w) rfl ?_
                refine kx_bn (t := 24) rfl rfl (fun (m14 : (0 ≤ (1 : Int32) ∧ (1 : Int32) ≤ 1)) => ?_) (fun (m14 : ¬ (0 ≤ (1 : Int32) ∧ (1 : Int32) ≤ 1)) => ?_)
                · refine kx_st 2 (pc' := 26) (L' := [some (.ref 65), some (.int (nI k)), some (.int 1), none]) (st' := [.int (nI k), .ref 65]) (h' := kv_wd (kv_uf g36 11 f48) w) rfl ?_
                  obtain ⟨f26, k26, e26⟩ := ev_mnearest (E := E) (d := 797) (g := kv_uf g36 11 f48) (w := w) M36 q0 m36 k hkm hK
                  refine kx_call (z := 176) (as := [.ref 65, .int (nI k)]) (rest := []) (v := some (.int (nI (10 * x + y)))) (h1 := kv_wd (kv_uf (kv_uf g36 11 f48) 65 f26) w) rfl (by rw [← n5]; exact e26) ?_
                  refine kx_st 0 (pc' := 29) (L' := [some (.ref 65), some (.int (nI k)), some (.int 1), none]) (st' := [.int (nI (10 * x + y))]) (h' := kv_wd (kv_uf (kv_uf g36 11 f48) 65 f26) w) rfl ?_
                  refine kx_st 2 (pc' := 31) (L' := [some (.ref 65), some (.int (nI k)), some (.int 1), some (.int (nI (10 * x + y)))]) (st' := [.int (nI (10 * x + y))]) (h' := kv_wd (kv_uf (kv_uf g36 11 f48) 65 f26) w) rfl ?_
                  refine kx_bc (t := 41) rfl rfl (fun (m31 : 0 ≤ nI (10 * x + y)) => ?_) (fun (m31 : ¬ (0 ≤ nI (10 * x + y))) => ?_)
                  · refine kx_st 1 (pc' := 42) (L' := [some (.ref 65), some (.int (nI k)), some (.int 1), some (.int (nI (10 * x + y)))]) (st' := [.int 1]) (h' := kv_wd (kv_uf (kv_uf g36 11 f48) 65 f26) w) rfl ?_
                    refine kx_st 1 (pc' := 49) (L' := [some (.ref 65), some (.int (nI k)), some (.int 1), some (.int (nI (10 * x + y)))]) (st' := []) (h' := kv_wd (kv_uf (kv_uf g36 11 f48) 65 f26) w) rfl ?_
                    refine kx_st 4 (pc' := 54) (L' := [some (.ref 65), some (.int (nI k)), some (.int 1), some (.int (nI (10 * x + y)))]) (st' := [.int 10, .int (nI (10 * x + y)), .int (nI k), .ref 65]) (h' := kv_wd (kv_uf (kv_uf g36 11 f48) 65 f26) w) rfl ?_
                    refine kx_dv rfl (by decide) ?_
                    refine kx_st 2 (pc' := 58) (L' := [some (.ref 65), some (.int (nI k)), some (.int 1), some (.int (nI (10 * x + y)))]) (st' := [.int 10, .int (nI (10 * x + y)), .int ((nI (10 * x + y)) / 10), .int (nI k), .ref 65]) (h' := kv_wd (kv_uf (kv_uf g36 11 f48) 65 f26) w) rfl ?_
                    refine kx_rm rfl (by decide) ?_
                    refine kx_call (z := 172) (as := [.ref 65, .int (nI k), .int ((nI (10 * x + y)) / 10), .int ((nI (10 * x + y)) % 10)]) (rest := []) (v := some (.int (kx_mq q0 (K k) x y))) (h1 := kv_wd (kv_uf (kv_uf g36 11 f48) 65 f26) w) rfl (by rw [e10, e11]; exact ev_mmisses (d := 897) (g := kv_uf (kv_uf g36 11 f48) 65 f26) M36 q0 m36 k hkm x y (by omega) (by omega)) ?_
                    refine kx_st 0 (pc' := 62) (L' := [some (.ref 65), some (.int (nI k)), some (.int 1), some (.int (nI (10 * x + y)))]) (st' := [.int (kx_mq q0 (K k) x y)]) (h' := kv_wd (kv_uf (kv_uf g36 11 f48) 65 f26) w) rfl ?_
                    refine kx_ret (v := some (.int (kx_mq q0 (K k) x y))) rfl ?_
                    exact ⟨rfl, _, _, rfl, kx_Rl_skip _ _ _ _ (kx_Rl_ro hR rfl (fun b h8 h11 h4 h65 h66 h68 h69 => (by rw [kv_uf_ne h65, kv_uf_ne h11]; exact r36 b h8 (by omega) (by omega) (by omega))) (fun z hz => (k26 z hz).trans (congrFun (r36 65 (by omega) (by omega) (by omega) (by omega)) z)) (fun j hj => congrFun (r36 66 (by omega) (by omega) (by omega) (by omega)) j))⟩
                  · exact absurd (nI_pos' (by omega)) m31
                · exact absurd hc m14
            · exact absurd (nI_pos' (by omega)) h55
          · exact absurd hc h18
    · refine kx_two (by decide) (Nat.le_of_ble_eq_true rfl) (by decide) (Nat.le_of_ble_eq_true rfl) ?_
      refine kx_st 0 (pc' := 0) (L' := [some (.ref 0), some (.int (nI k)), some (.int b), none, none]) (st' := []) (h' := kv_wd g w) rfl ?_
      refine kx_st 3 (pc' := 5) (L' := [some (.ref 0), some (.int (nI k)), some (.int b), none, none]) (st' := [.int (nI k), .ref 1]) (h' := kv_wd g w) rfl ?_
      refine kx_call (z := 17) (as := [.ref 1, .int (nI k)]) (rest := []) (v := some (.ref (14 + k))) (h1 := kv_wd g w) rfl (ev_knotAt (d := 898) (g := g) q k hk8 (by rw [d1]; exact nI_lt hkm (by omega))) ?_
      refine kx_st 0 (pc' := 8) (L' := [some (.ref 0), some (.int (nI k)), some (.int b), none, none]) (st' := [.ref (14 + k)]) (h' := kv_wd g w) rfl ?_
      refine kx_st 2 (pc' := 10) (L' := [some (.ref 0), some (.int (nI k)), some (.int b), some (.ref (14 + k)), none]) (st' := [.ref (14 + k)]) (h' := kv_wd g w) rfl ?_
      refine kx_st 1 (pc' := 13) (L' := [some (.ref 0), some (.int (nI k)), some (.int b), some (.ref (14 + k)), none]) (st' := []) (h' := kv_wd g w) rfl ?_
      refine kx_st 2 (pc' := 15) (L' := [some (.ref 0), some (.int (nI k)), some (.int b), some (.ref (14 + k)), none]) (st' := [.int 1, .int b]) (h' := kv_wd g w) rfl ?_
      refine kx_call (z := 124) (as := [.int b, .int 1]) (rest := []) (v := some (.int (kx_b (0 ≤ b ∧ b ≤ 1)))) (h1 := kv_wd g w) rfl (ev_within (d := 898) b 1) ?_
      refine kx_st 0 (pc' := 18) (L' := [some (.ref 0), some (.int (nI k)), some (.int b), some (.ref (14 + k)), none]) (st' := [.int (kx_b (0 ≤ b ∧ b ≤ 1))]) (h' := kv_wd g w) rfl ?_
      refine kx_bn (t := 27) rfl rfl (fun (h18 : (0 ≤ b ∧ b ≤ 1)) => ?_) (fun (h18 : ¬ (0 ≤ b ∧ b ≤ 1)) => ?_)
      · exact absurd h18 hc
      · refine kx_st 0 (pc' := 21) (L' := [some (.ref 0), some (.int (nI k)), some (.int b), some (.ref (14 + k)), none]) (st' := []) (h' := kv_wd g w) rfl ?_
        refine kx_st 2 (pc' := 23) (L' := [some (.ref 0), some (.int (nI k)), some (.int b), some (.ref (14 + k)), none]) (st' := [.int 1, .ref 0]) (h' := kv_wd g w) rfl ?_
        refine kx_call (z := 123) (as := [.ref 0, .int 1]) (rest := []) (v := some (.int (-1000000000 - nI 1))) (h1 := kv_wd (kv_up g 64 1 (g 64 1 + 1)) w) rfl (ev_error (d := 898) 1 (by decide) (by decide)) ?_
        refine kx_st 0 (pc' := 26) (L' := [some (.ref 0), some (.int (nI k)), some (.int b), some (.ref (14 + k)), none]) (st' := [.int (-1000000000 - nI 1)]) (h' := kv_wd (kv_up g 64 1 (g 64 1 + 1)) w) rfl ?_
        refine kx_ret (v := some (.int (-1000000000 - nI 1))) rfl ?_
        refine ⟨_, _, _, rfl, rfl, ?_⟩
        refine kx_st 0 (pc' := 0) (L' := [some (.ref 65), some (.int (nI k)), some (.int b), none]) (st' := []) (h' := kv_wd (kv_up g 64 1 (g 64 1 + 1)) w) rfl ?_
        refine kx_st 2 (pc' := 2) (L' := [some (.ref 65), some (.int (nI k)), some (.int b), none]) (st' := [.int (nI k), .ref 65]) (h' := kv_wd (kv_up g 64 1 (g 64 1 + 1)) w) rfl ?_
        refine kx_call (z := 139) (as := [.ref 65, .int (nI k)]) (rest := []) (v := some (.int (kx_b (0 ≤ nI k ∧ nI k < nI m)))) (h1 := kv_wd (kv_up g 64 1 (g 64 1 + 1)) w) rfl (ev_mKnotS (d := 897) (g := kv_up g 64 1 (g 64 1 + 1)) (s := m) (by first | exact d2 | (rw [kv_up_ne (by omega)]; exact d2)) a4 (nI k)) ?_
        refine kx_st 0 (pc' := 5) (L' := [some (.ref 65), some (.int (nI k)), some (.int b), none]) (st' := [.int (kx_b (0 ≤ nI k ∧ nI k < nI m))]) (h' := kv_wd (kv_up g 64 1 (g 64 1 + 1)) w) rfl ?_
        refine kx_be (t := 17) rfl rfl (fun (m5 : ¬ (0 ≤ nI k ∧ nI k < nI m)) => ?_) (fun (m5 : (0 ≤ nI k ∧ nI k < nI m)) => ?_)
        · exact absurd hv m5
        · refine kx_st 0 (pc' := 8) (L' := [some (.ref 65), some (.int (nI k)), some (.int b), none]) (st' := []) (h' := kv_wd (kv_up g 64 1 (g 64 1 + 1)) w) rfl ?_
          refine kx_st 3 (pc' := 11) (L' := [some (.ref 65), some (.int (nI k)), some (.int b), none]) (st' := [.int 1, .int 0, .int b]) (h' := kv_wd (kv_up g 64 1 (g 64 1 + 1)) w) rfl ?_
          refine kx_call (z := 130) (as := [.int b, .int 0, .int 1]) (rest := []) (v := some (.int (kx_b (0 ≤ b ∧ b ≤ 1)))) (h1 := kv_wd (kv_up g 64 1 (g 64 1 + 1)) w) rfl (ev_in (d := 898) b 0 1) ?_
          refine kx_st 0 (pc' := 14) (L' := [some (.ref 65), some (.int (nI k)), some (.int b), none]) (st' := [.int (kx_b (0 ≤ b ∧ b ≤ 1))]) (h' := kv_wd (kv_up g 64 1 (g 64 1 + 1)) w) rfl ?_
          refine kx_bn (t := 24) rfl rfl (fun (m14 : (0 ≤ b ∧ b ≤ 1)) => ?_) (fun (m14 : ¬ (0 ≤ b ∧ b ≤ 1)) => ?_)
          · exact absurd m14 hc
          · refine kx_st 0 (pc' := 17) (L' := [some (.ref 65), some (.int (nI k)), some (.int b), none]) (st' := []) (h' := kv_wd (kv_up g 64 1 (g 64 1 + 1)) w) rfl ?_
            refine kx_st 2 (pc' := 20) (L' := [some (.ref 65), some (.int (nI k)), some (.int b), none]) (st' := [.int (-1000000001), .ref 65]) (h' := kv_wd (kv_up g 64 1 (g 64 1 + 1)) w) rfl ?_
            refine kx_call (z := 131) (as := [.ref 65, .int (-1000000001)]) (rest := []) (v := some (.int (-1000000001))) (h1 := kv_wd (kv_up (kv_up g 64 1 (g 64 1 + 1)) 70 1 ((kv_up g 64 1 (g 64 1 + 1)) 70 1 + 1)) w) rfl (ev_errs (d := 898) (-1000000001) 1 (by decide) (by decide)) ?_
            refine kx_st 0 (pc' := 23) (L' := [some (.ref 65), some (.int (nI k)), some (.int b), none]) (st' := [.int (-1000000001)]) (h' := kv_wd (kv_up (kv_up g 64 1 (g 64 1 + 1)) 70 1 ((kv_up g 64 1 (g 64 1 + 1)) 70 1 + 1)) w) rfl ?_
            refine kx_ret (v := some (.int (-1000000001))) rfl ?_
            exact ⟨rfl, _, _, rfl, kx_Rl_e hR⟩
  · refine kx_two (by decide) (Nat.le_of_ble_eq_true rfl) (by decide) (Nat.le_of_ble_eq_true rfl) ?_
    refine kx_st 0 (pc' := 0) (L' := [some (.ref 0), some (.int a), some (.int b), none, none]) (st' := []) (h' := kv_wd g w) rfl ?_
    refine kx_st 3 (pc' := 5) (L' := [some (.ref 0), some (.int a), some (.int b), none, none]) (st' := [.int a, .ref 1]) (h' := kv_wd g w) rfl ?_
    refine kx_call (z := 17) (as := [.ref 1, .int a]) (rest := []) (v := some (.null)) (h1 := kv_wd g w) rfl (ev_knotAt_n (d := 898) (g := g) a (by rw [d1]; exact hv)) ?_
    refine kx_st 0 (pc' := 8) (L' := [some (.ref 0), some (.int a), some (.int b), none, none]) (st' := [.null]) (h' := kv_wd g w) rfl ?_
    refine kx_st 2 (pc' := 10) (L' := [some (.ref 0), some (.int a), some (.int b), some (.null), none]) (st' := [.null]) (h' := kv_wd g w) rfl ?_
    refine kx_st 1 (pc' := 21) (L' := [some (.ref 0), some (.int a), some (.int b), some (.null), none]) (st' := []) (h' := kv_wd g w) rfl ?_
    refine kx_st 2 (pc' := 23) (L' := [some (.ref 0), some (.int a), some (.int b), some (.null), none]) (st' := [.int 1, .ref 0]) (h' := kv_wd g w) rfl ?_
    refine kx_call (z := 123) (as := [.ref 0, .int 1]) (rest := []) (v := some (.int (-1000000000 - nI 1))) (h1 := kv_wd (kv_up g 64 1 (g 64 1 + 1)) w) rfl (ev_error (d := 898) 1 (by decide) (by decide)) ?_
    refine kx_st 0 (pc' := 26) (L' := [some (.ref 0), some (.int a), some (.int b), some (.null), none]) (st' := [.int (-1000000000 - nI 1)]) (h' := kv_wd (kv_up g 64 1 (g 64 1 + 1)) w) rfl ?_
    refine kx_ret (v := some (.int (-1000000000 - nI 1))) rfl ?_
    refine ⟨_, _, _, rfl, rfl, ?_⟩
    refine kx_st 0 (pc' := 0) (L' := [some (.ref 65), some (.int a), some (.int b), none]) (st' := []) (h' := kv_wd (kv_up g 64 1 (g 64 1 + 1)) w) rfl ?_
    refine kx_st 2 (pc' := 2) (L' := [some (.ref 65), some (.int a), some (.int b), none]) (st' := [.int a, .ref 65]) (h' := kv_wd (kv_up g 64 1 (g 64 1 + 1)) w) rfl ?_
    refine kx_call (z := 139) (as := [.ref 65, .int a]) (rest := []) (v := some (.int (kx_b (0 ≤ a ∧ a < nI m)))) (h1 := kv_wd (kv_up g 64 1 (g 64 1 + 1)) w) rfl (ev_mKnotS (d := 897) (g := kv_up g 64 1 (g 64 1 + 1)) (s := m) (by first | exact d2 | (rw [kv_up_ne (by omega)]; exact d2)) a4 a) ?_
    refine kx_st 0 (pc' := 5) (L' := [some (.ref 65), some (.int a), some (.int b), none]) (st' := [.int (kx_b (0 ≤ a ∧ a < nI m))]) (h' := kv_wd (kv_up g 64 1 (g 64 1 + 1)) w) rfl ?_
    refine kx_be (t := 17) rfl rfl (fun (m5 : ¬ (0 ≤ a ∧ a < nI m)) => ?_) (fun (m5 : (0 ≤ a ∧ a < nI m)) => ?_)
    · refine kx_st 2 (pc' := 20) (L' := [some (.ref 65), some (.int a), some (.int b), none]) (st' := [.int (-1000000001), .ref 65]) (h' := kv_wd (kv_up g 64 1 (g 64 1 + 1)) w) rfl ?_
      refine kx_call (z := 131) (as := [.ref 65, .int (-1000000001)]) (rest := []) (v := some (.int (-1000000001))) (h1 := kv_wd (kv_up (kv_up g 64 1 (g 64 1 + 1)) 70 1 ((kv_up g 64 1 (g 64 1 + 1)) 70 1 + 1)) w) rfl (ev_errs (d := 898) (-1000000001) 1 (by decide) (by decide)) ?_
      refine kx_st 0 (pc' := 23) (L' := [some (.ref 65), some (.int a), some (.int b), none]) (st' := [.int (-1000000001)]) (h' := kv_wd (kv_up (kv_up g 64 1 (g 64 1 + 1)) 70 1 ((kv_up g 64 1 (g 64 1 + 1)) 70 1 + 1)) w) rfl ?_
      refine kx_ret (v := some (.int (-1000000001))) rfl ?_
      exact ⟨rfl, _, _, rfl, kx_Rl_e hR⟩
    · exact absurd m5 hv
def kx_lat (p : Nat → Bool) : Nat → Int32
  | 0 => -1
  | n + 1 => if p n = true then nI n else kx_lat p n
theorem kx_lat_y {p : Nat → Bool} {n : Nat} (h : p n = true) : kx_lat p (n + 1) = nI n := if_pos h
theorem kx_lat_n {p : Nat → Bool} {n : Nat} (h : ¬ p n = true) : kx_lat p (n + 1) = kx_lat p n := if_neg h
/-- in year n behind this one the two who bound it can -/
def kx_pn (F0 F1 : kx_FF) (s t : Nat) (q : kx_Q) (K : Nat → Int32) (a b n : Nat) : Bool := decide (kx_io F1 t (kx_yn F0 s t n q) K a b)
theorem kx_sum_b {p : Nat → Bool} : ∀ n, n ≤ 60 → ∃ c, c ≤ n ∧ kx_sum (fun j => if p j = true then 1 else 0) n = nI c := by
  intro n
  induction n with
  | zero => intro _; exact ⟨0, Nat.le_refl _, rfl⟩
  | succ n ih =>
    intro hn
    obtain ⟨c, h1, h2⟩ := ih (by omega)
    by_cases h : p n = true
    · exact ⟨c + 1, by omega, by rw [kx_sum, h2, if_pos h]; exact (nI_succ c).symm⟩
    · exact ⟨c, by omega, by rw [kx_sum, h2, if_neg h]; grind⟩
set_option maxRecDepth 100000 in
theorem lp_xlast {E : kv_V} {d : Nat} {w : kv_W} (q : kx_Q) (g : kv_S) {F0 F1 : kx_FF} {s t m : Nat} {K : Nat → Nat → Int32} (hX : kx_X F0 F1 s t m K g) (hqb : kx_qb q) (hF0 : kx_LF 0 F0) (k : Nat) (hkm : k < m) (hK : kx_K s k (K k) (K k)) (a b : Nat) (ha : a < s) (hb : b < s) (ka : K k 2 = nI a) (kb : K k 3 = nI b)  {P : Option Value → kv_H → Prop} (hP : ∀ g1 : kv_S, (kx_hq (g1 45) (g1 46) (g1 44 2) (kx_yn F0 s t 61 q) ∧ (∀ b, b ≠ 8 → b ≠ 11 → b ≠ 44 → b ≠ 45 → b ≠ 46 → g1 b = g b)) → kx_V E (d + 9) 98 78 [some (.ref 0), some (.int (nI k)), some (.ref (14 + k)), some (.int (kx_lat (kx_pn F0 F1 s t q (K k) a b) 61)), some (.int (nI 61))] [] (kv_wd g1 w) P) : ∀ (nz n : Nat) (g1 : kv_S), n + nz = 61 → (kx_hq (g1 45) (g1 46) (g1 44 2) (kx_yn F0 s t n q) ∧ (∀ b, b ≠ 8 → b ≠ 11 → b ≠ 44 → b ≠ 45 → b ≠ 46 → g1 b = g b)) → kx_V E (d + 9) 98 36 [some (.ref 0), some (.int (nI k)), some (.ref (14 + k)), some (.int (kx_lat (kx_pn F0 F1 s t q (K k) a b) n)), some (.int (nI n))] [] (kv_wd g1 w) P := by
  have hk8 : k < 8 := by have := hX.1.2.2.2; omega
  intro nz
  induction nz with
  | zero =>
    intro n g1 hi h1
    have hkN : n = 61 := by omega
    refine kx_st 2 (pc' := 40) (L' := [some (.ref 0), some (.int (nI k)), some (.ref (14 + k)), some (.int (kx_lat (kx_pn F0 F1 s t q (K k) a b) n)), some (.int (nI n))]) (st' := [.int 60, .int (nI n)]) (h' := kv_wd g1 w) rfl ?_
    refine kx_bi (t := 78) rfl rfl (fun (h40 : 60 < nI n) => ?_) (fun (h40 : ¬ (60 < nI n)) => ?_)
    · subst hkN
      exact hP g1 h1
    · exact absurd (nI_lt (a := 60) (b := n) (by omega) (by omega)) h40
  | succ nz ih =>
    intro n g1 hi h1
    have hX1 : kx_X F0 F1 s t m K g1 := kx_X_cg (fun b hb => h1.2 b (by omega) (by omega) (by omega) (by omega) (by omega)) hX
    refine kx_st 2 (pc' := 40) (L' := [some (.ref 0), some (.int (nI k)), some (.ref (14 + k)), some (.int (kx_lat (kx_pn F0 F1 s t q (K k) a b) n)), some (.int (nI n))]) (st' := [.int 60, .int (nI n)]) (h' := kv_wd g1 w) rfl ?_
    refine kx_bi (t := 78) rfl rfl (fun (h40 : 60 < nI n) => ?_) (fun (h40 : ¬ (60 < nI n)) => ?_)
    · exact absurd h40 (nI_nlt (a := 60) (b := n) (by omega) (by omega))
    · refine kx_st 0 (pc' := 43) (L' := [some (.ref 0), some (.int (nI k)), some (.ref (14 + k)), some (.int (kx_lat (kx_pn F0 F1 s t q (K k) a b) n)), some (.int (nI n))]) (st' := []) (h' := kv_wd g1 w) rfl ?_
      refine kx_st 5 (pc' := 52) (L' := [some (.ref 0), some (.int (nI k)), some (.ref (14 + k)), some (.int (kx_lat (kx_pn F0 F1 s t q (K k) a b) n)), some (.int (nI n))]) (st' := [.ref (14 + k), .ref 1, .ref 43]) (h' := kv_wd g1 w) rfl ?_
      obtain ⟨fo, eo⟩ := ev_isOwn (E := E) (d := d) (g := g1) (w := w) hX1 _ h1.1 (kx_qb_n hF0 hqb n) k hkm hK a b ha hb ka kb
      refine kx_call (z := 64) (as := [.ref 43, .ref 1, .ref (14 + k)]) (rest := []) (v := some (.int (kx_b (kx_io F1 t (kx_yn F0 s t n q) (K k) a b)))) (h1 := kv_wd (kv_uf g1 11 fo) w) rfl eo ?_
      refine kx_st 0 (pc' := 55) (L' := [some (.ref 0), some (.int (nI k)), some (.ref (14 + k)), some (.int (kx_lat (kx_pn F0 F1 s t q (K k) a b) n)), some (.int (nI n))]) (st' := [.int (kx_b (kx_io F1 t (kx_yn F0 s t n q) (K k) a b))]) (h' := kv_wd (kv_uf g1 11 fo) w) rfl ?_
      refine kx_be (t := 61) rfl rfl (fun (h55 : ¬ (kx_io F1 t (kx_yn F0 s t n q) (K k) a b)) => ?_) (fun (h55 : (kx_io F1 t (kx_yn F0 s t n q) (K k) a b)) => ?_)
      · refine kx_st 4 (pc' := 69) (L' := [some (.ref 0), some (.int (nI k)), some (.ref (14 + k)), some (.int (kx_lat (kx_pn F0 F1 s t q (K k) a b) n)), some (.int (nI n))]) (st' := [.ref 1, .ref 43]) (h' := kv_wd (kv_uf g1 11 fo) w) rfl ?_
        obtain ⟨g2, eg, k1, k2⟩ := ev_goOn (E := E) (d := d + 2) (g := kv_uf g1 11 fo) (w := w) (kx_X_cg (fun b hb => kv_uf_ne (by omega)) hX1) _ h1.1
        refine kx_call (z := 61) (as := [.ref 43, .ref 1]) (rest := []) (v := none) (h1 := kv_wd g2 w) rfl eg ?_
        refine kx_st 0 (pc' := 72) (L' := [some (.ref 0), some (.int (nI k)), some (.ref (14 + k)), some (.int (kx_lat (kx_pn F0 F1 s t q (K k) a b) n)), some (.int (nI n))]) (st' := []) (h' := kv_wd g2 w) rfl ?_
        refine kx_st 2 (pc' := 36) (L' := [some (.ref 0), some (.int (nI k)), some (.ref (14 + k)), some (.int (kx_lat (kx_pn F0 F1 s t q (K k) a b) n)), some (.int ((nI n) + 1))]) (st' := []) (h' := kv_wd g2 w) rfl ?_
        have hh := ih (n + 1) g2 (by omega) ⟨k1, fun b b1 b2 b3 b4 b5 => (k2 b b1 b3 b4 b5).trans ((kv_uf_ne b2).trans (h1.2 b b1 b2 b3 b4 b5))⟩
        rw [kx_lat_n (p := (kx_pn F0 F1 s t q (K k) a b)) (fun z => h55 (of_decide_eq_true z)), nI_succ] at hh
        exact hh
      · refine kx_st 0 (pc' := 58) (L' := [some (.ref 0), some (.int (nI k)), some (.ref (14 + k)), some (.int (kx_lat (kx_pn F0 F1 s t q (K k) a b) n)), some (.int (nI n))]) (st' := []) (h' := kv_wd (kv_uf g1 11 fo) w) rfl ?_
        refine kx_st 6 (pc' := 69) (L' := [some (.ref 0), some (.int (nI k)), some (.ref (14 + k)), some (.int (nI n)), some (.int (nI n))]) (st' := [.ref 1, .ref 43]) (h' := kv_wd (kv_uf g1 11 fo) w) rfl ?_
        obtain ⟨g2, eg, k1, k2⟩ := ev_goOn (E := E) (d := d + 2) (g := kv_uf g1 11 fo) (w := w) (kx_X_cg (fun b hb => kv_uf_ne (by omega)) hX1) _ h1.1
        refine kx_call (z := 61) (as := [.ref 43, .ref 1]) (rest := []) (v := none) (h1 := kv_wd g2 w) rfl eg ?_
        refine kx_st 0 (pc' := 72) (L' := [some (.ref 0), some (.int (nI k)), some (.ref (14 + k)), some (.int (nI n)), some (.int (nI n))]) (st' := []) (h' := kv_wd g2 w) rfl ?_
        refine kx_st 2 (pc' := 36) (L' := [some (.ref 0), some (.int (nI k)), some (.ref (14 + k)), some (.int (nI n)), some (.int ((nI n) + 1))]) (st' := []) (h' := kv_wd g2 w) rfl ?_
        have hh := ih (n + 1) g2 (by omega) ⟨k1, fun b b1 b2 b3 b4 b5 => (k2 b b1 b3 b4 b5).trans ((kv_uf_ne b2).trans (h1.2 b b1 b2 b3 b4 b5))⟩
        rw [kx_lat_y (p := (kx_pn F0 F1 s t q (K k) a b)) (decide_eq_true h55), nI_succ] at hh
        exact hh
set_option maxRecDepth 100000 in
theorem lp_mlast {E : kv_V} {d : Nat} {w : kv_W} (q : kx_Q) (g : kv_S) {F0 F1 : kx_FF} {s t m : Nat} {K : Nat → Nat → Int32} (hM : kx_M F0 F1 s t m K (g 66)) (hqb : kx_qb q) (hF0 : kx_LF 0 F0) (k : Nat) (hkm : k < m) (hK : kx_K s k (K k) (K k)) (a b : Nat) (ha : a < s) (hb : b < s) (ka : K k 2 = nI a) (kb : K k 3 = nI b)  {P : Option Value → kv_H → Prop} (hP : ∀ g1 : kv_S, (kx_hmq (g1 66) (kx_yn F0 s t 61 q) ∧ (∀ j, 0 < j → (j < 8 ∨ 20 ≤ j) → g1 66 j = g 66 j) ∧ (∀ b, b ≠ 65 → b ≠ 66 → g1 b = g b) ∧ ∀ k, (k < 7 ∨ 14 < k) → g1 65 k = g 65 k) → kx_V E (d + 102) 186 61 [some (.ref 65), some (.int (nI k)), some (.int (kx_lat (kx_pn F0 F1 s t q (K k) a b) 61)), some (.int (nI 61))] [] (kv_wd g1 w) P) : ∀ (nz n : Nat) (g1 : kv_S), n + nz = 61 → (kx_hmq (g1 66) (kx_yn F0 s t n q) ∧ (∀ j, 0 < j → (j < 8 ∨ 20 ≤ j) → g1 66 j = g 66 j) ∧ (∀ b, b ≠ 65 → b ≠ 66 → g1 b = g b) ∧ ∀ k, (k < 7 ∨ 14 < k) → g1 65 k = g 65 k) → kx_V E (d + 102) 186 31 [some (.ref 65), some (.int (nI k)), some (.int (kx_lat (kx_pn F0 F1 s t q (K k) a b) n)), some (.int (nI n))] [] (kv_wd g1 w) P := by
  have hk8 : k < 8 := by have := hM.1.2.2.2; omega
  intro nz
  induction nz with
  | zero =>
    intro n g1 hi h1
    have hkN : n = 61 := by omega
    refine kx_st 2 (pc' := 34) (L' := [some (.ref 65), some (.int (nI k)), some (.int (kx_lat (kx_pn F0 F1 s t q (K k) a b) n)), some (.int (nI n))]) (st' := [.int 60, .int (nI n)]) (h' := kv_wd g1 w) rfl ?_
    refine kx_bi (t := 61) rfl rfl (fun (h34 : 60 < nI n) => ?_) (fun (h34 : ¬ (60 < nI n)) => ?_)
    · subst hkN
      exact hP g1 h1
    · exact absurd (nI_lt (a := 60) (b := n) (by omega) (by omega)) h34
  | succ nz ih =>
    intro n g1 hi h1
    have hM1 : kx_M F0 F1 s t m K (g1 66) := kx_M_cg (fun j hj j0 _ => h1.2.1 j j0 hj) hM
    refine kx_st 2 (pc' := 34) (L' := [some (.ref 65), some (.int (nI k)), some (.int (kx_lat (kx_pn F0 F1 s t q (K k) a b) n)), some (.int (nI n))]) (st' := [.int 60, .int (nI n)]) (h' := kv_wd g1 w) rfl ?_
    refine kx_bi (t := 61) rfl rfl (fun (h34 : 60 < nI n) => ?_) (fun (h34 : ¬ (60 < nI n)) => ?_)
    · exact absurd h34 (nI_nlt (a := 60) (b := n) (by omega) (by omega))
    · refine kx_st 0 (pc' := 37) (L' := [some (.ref 65), some (.int (nI k)), some (.int (kx_lat (kx_pn F0 F1 s t q (K k) a b) n)), some (.int (nI n))]) (st' := []) (h' := kv_wd g1 w) rfl ?_
      refine kx_st 2 (pc' := 39) (L' := [some (.ref 65), some (.int (nI k)), some (.int (kx_lat (kx_pn F0 F1 s t q (K k) a b) n)), some (.int (nI n))]) (st' := [.int (nI k), .ref 65]) (h' := kv_wd g1 w) rfl ?_
      obtain ⟨fo, ko, eo⟩ := ev_misOwn (E := E) (d := d) (g := g1) (w := w) hM1 _ h1.1 k hkm hK a b ha hb ka kb
      refine kx_call (z := 175) (as := [.ref 65, .int (nI k)]) (rest := []) (v := some (.int (kx_b (kx_io F1 t (kx_yn F0 s t n q) (K k) a b)))) (h1 := kv_wd (kv_uf g1 65 fo) w) rfl eo ?_
      refine kx_st 0 (pc' := 42) (L' := [some (.ref 65), some (.int (nI k)), some (.int (kx_lat (kx_pn F0 F1 s t q (K k) a b) n)), some (.int (nI n))]) (st' := [.int (kx_b (kx_io F1 t (kx_yn F0 s t n q) (K k) a b))]) (h' := kv_wd (kv_uf g1 65 fo) w) rfl ?_
      refine kx_be (t := 49) rfl rfl (fun (h42 : ¬ (kx_io F1 t (kx_yn F0 s t n q) (K k) a b)) => ?_) (fun (h42 : (kx_io F1 t (kx_yn F0 s t n q) (K k) a b)) => ?_)
      · refine kx_st 3 (pc' := 52) (L' := [some (.ref 65), some (.int (nI k)), some (.int (kx_lat (kx_pn F0 F1 s t q (K k) a b) n)), some (.int (nI n))]) (st' := [.ref 65]) (h' := kv_wd (kv_uf g1 65 fo) w) rfl ?_
        obtain ⟨g2, eg, k1, k2, k3, k4⟩ := ev_oneYear (E := E) (d := d + 1) (g := kv_uf g1 65 fo) (w := w) hM1 _ h1.1
        refine kx_call (z := 178) (as := [.ref 65]) (rest := []) (v := none) (h1 := kv_wd g2 w) rfl eg ?_
        refine kx_st 0 (pc' := 55) (L' := [some (.ref 65), some (.int (nI k)), some (.int (kx_lat (kx_pn F0 F1 s t q (K k) a b) n)), some (.int (nI n))]) (st' := []) (h' := kv_wd g2 w) rfl ?_
        refine kx_st 2 (pc' := 31) (L' := [some (.ref 65), some (.int (nI k)), some (.int (kx_lat (kx_pn F0 F1 s t q (K k) a b) n)), some (.int ((nI n) + 1))]) (st' := []) (h' := kv_wd g2 w) rfl ?_
        have hh := ih (n + 1) g2 (by omega) ⟨k1, fun j j0 hj => (k2 j j0 hj).trans (h1.2.1 j j0 hj), fun b b1 b2 => (k3 b b1 b2).trans ((kv_uf_ne b1).trans (h1.2.2.1 b b1 b2)), fun z hz => (k4 z hz).trans ((ko z hz).trans (h1.2.2.2 z hz))⟩
        rw [kx_lat_n (p := (kx_pn F0 F1 s t q (K k) a b)) (fun z => h42 (of_decide_eq_true z)), nI_succ] at hh
        exact hh
      · refine kx_st 0 (pc' := 45) (L' := [some (.ref 65), some (.int (nI k)), some (.int (kx_lat (kx_pn F0 F1 s t q (K k) a b) n)), some (.int (nI n))]) (st' := []) (h' := kv_wd (kv_uf g1 65 fo) w) rfl ?_
        refine kx_st 4 (pc' := 52) (L' := [some (.ref 65), some (.int (nI k)), some (.int (nI n)), some (.int (nI n))]) (st' := [.ref 65]) (h' := kv_wd (kv_uf g1 65 fo) w) rfl ?_
        obtain ⟨g2, eg, k1, k2, k3, k4⟩ := ev_oneYear (E := E) (d := d + 1) (g := kv_uf g1 65 fo) (w := w) hM1 _ h1.1
        refine kx_call (z := 178) (as := [.ref 65]) (rest := []) (v := none) (h1 := kv_wd g2 w) rfl eg ?_
        refine kx_st 0 (pc' := 55) (L' := [some (.ref 65), some (.int (nI k)), some (.int (nI n)), some (.int (nI n))]) (st' := []) (h' := kv_wd g2 w) rfl ?_
        refine kx_st 2 (pc' := 31) (L' := [some (.ref 65), some (.int (nI k)), some (.int (nI n)), some (.int ((nI n) + 1))]) (st' := []) (h' := kv_wd g2 w) rfl ?_
        have hh := ih (n + 1) g2 (by omega) ⟨k1, fun j j0 hj => (k2 j j0 hj).trans (h1.2.1 j j0 hj), fun b b1 b2 => (k3 b b1 b2).trans ((kv_uf_ne b1).trans (h1.2.2.1 b b1 b2)), fun z hz => (k4 z hz).trans ((ko z hz).trans (h1.2.2.2 z hz))⟩
        rw [kx_lat_y (p := (kx_pn F0 F1 s t q (K k) a b)) (decide_eq_true h42), nI_succ] at hh
        exact hh
set_option maxRecDepth 100000 in
theorem lp_xodds {E : kv_V} {d : Nat} {w : kv_W} (q : kx_Q) (g : kv_S) {F0 F1 : kx_FF} {s t m : Nat} {K : Nat → Nat → Int32} (hX : kx_X F0 F1 s t m K g) (hqb : kx_qb q) (hF0 : kx_LF 0 F0) (k : Nat) (hkm : k < m) (hK : kx_K s k (K k) (K k)) (a b : Nat) (ha : a < s) (hb : b < s) (ka : K k 2 = nI a) (kb : K k 3 = nI b) (c0 : Int32) {P : Option Value → kv_H → Prop} (hP : ∀ g1 : kv_S, (kx_hq (g1 45) (g1 46) (g1 44 2) (kx_yn F0 s t 10 q) ∧ (∀ b, b ≠ 8 → b ≠ 11 → b ≠ 44 → b ≠ 45 → b ≠ 46 → g1 b = g b)) → kx_V E (d + 9) 107 94 [some (.ref 0), some (.int (nI k)), some (.int c0), some (.ref (14 + k)), some (.int (kx_sum (fun j => if (kx_pn F0 F1 s t q (K k) a b) j = true then 1 else 0) 10)), some (.int (nI 10))] [] (kv_wd g1 w) P) : ∀ (nz n : Nat) (g1 : kv_S), n + nz = 10 → (kx_hq (g1 45) (g1 46) (g1 44 2) (kx_yn F0 s t n q) ∧ (∀ b, b ≠ 8 → b ≠ 11 → b ≠ 44 → b ≠ 45 → b ≠ 46 → g1 b = g b)) → kx_V E (d + 9) 107 45 [some (.ref 0), some (.int (nI k)), some (.int c0), some (.ref (14 + k)), some (.int (kx_sum (fun j => if (kx_pn F0 F1 s t q (K k) a b) j = true then 1 else 0) n)), some (.int (nI n))] [] (kv_wd g1 w) P := by
  have hk8 : k < 8 := by have := hX.1.2.2.2; omega
  intro nz
  induction nz with
  | zero =>
    intro n g1 hi h1
    have hkN : n = 10 := by omega
    refine kx_st 2 (pc' := 49) (L' := [some (.ref 0), some (.int (nI k)), some (.int c0), some (.ref (14 + k)), some (.int (kx_sum (fun j => if (kx_pn F0 F1 s t q (K k) a b) j = true then 1 else 0) n)), some (.int (nI n))]) (st' := [.int 10, .int (nI n)]) (h' := kv_wd g1 w) rfl ?_
    refine kx_bi (t := 94) rfl rfl (fun (h49 : 10 ≤ nI n) => ?_) (fun (h49 : ¬ (10 ≤ nI n)) => ?_)
    · subst hkN
      exact hP g1 h1
    · exact absurd (nI_le (a := 10) (b := n) (by omega) (by omega)) h49
  | succ nz ih =>
    intro n g1 hi h1
    have hX1 : kx_X F0 F1 s t m K g1 := kx_X_cg (fun b hb => h1.2 b (by omega) (by omega) (by omega) (by omega) (by omega)) hX
    refine kx_st 2 (pc' := 49) (L' := [some (.ref 0), some (.int (nI k)), some (.int c0), some (.ref (14 + k)), some (.int (kx_sum (fun j => if (kx_pn F0 F1 s t q (K k) a b) j = true then 1 else 0) n)), some (.int (nI n))]) (st' := [.int 10, .int (nI n)]) (h' := kv_wd g1 w) rfl ?_
    refine kx_bi (t := 94) rfl rfl (fun (h49 : 10 ≤ nI n) => ?_) (fun (h49 : ¬ (10 ≤ nI n)) => ?_)
    · exact absurd h49 (nI_ge (a := n) (b := 10) (by omega) (by omega))
    · refine kx_st 0 (pc' := 52) (L' := [some (.ref 0), some (.int (nI k)), some (.int c0), some (.ref (14 + k)), some (.int (kx_sum (fun j => if (kx_pn F0 F1 s t q (K k) a b) j = true then 1 else 0) n)), some (.int (nI n))]) (st' := []) (h' := kv_wd g1 w) rfl ?_
      refine kx_st 6 (pc' := 63) (L' := [some (.ref 0), some (.int (nI k)), some (.int c0), some (.ref (14 + k)), some (.int (kx_sum (fun j => if (kx_pn F0 F1 s t q (K k) a b) j = true then 1 else 0) n)), some (.int (nI n))]) (st' := [.ref (14 + k), .ref 1, .ref 43, .int (kx_sum (fun j => if (kx_pn F0 F1 s t q (K k) a b) j = true then 1 else 0) n)]) (h' := kv_wd g1 w) rfl ?_
      obtain ⟨fo, eo⟩ := ev_isOwn (E := E) (d := d) (g := g1) (w := w) hX1 _ h1.1 (kx_qb_n hF0 hqb n) k hkm hK a b ha hb ka kb
      refine kx_call (z := 64) (as := [.ref 43, .ref 1, .ref (14 + k)]) (rest := [.int (kx_sum (fun j => if (kx_pn F0 F1 s t q (K k) a b) j = true then 1 else 0) n)]) (v := some (.int (kx_b (kx_io F1 t (kx_yn F0 s t n q) (K k) a b)))) (h1 := kv_wd (kv_uf g1 11 fo) w) rfl eo ?_
      refine kx_st 0 (pc' := 66) (L' := [some (.ref 0), some (.int (nI k)), some (.int c0), some (.ref (14 + k)), some (.int (kx_sum (fun j => if (kx_pn F0 F1 s t q (K k) a b) j = true then 1 else 0) n)), some (.int (nI n))]) (st' := [.int (kx_b (kx_io F1 t (kx_yn F0 s t n q) (K k) a b)), .int (kx_sum (fun j => if (kx_pn F0 F1 s t q (K k) a b) j = true then 1 else 0) n)]) (h' := kv_wd (kv_uf g1 11 fo) w) rfl ?_
      refine kx_be (t := 73) rfl rfl (fun (h66 : ¬ (kx_io F1 t (kx_yn F0 s t n q) (K k) a b)) => ?_) (fun (h66 : (kx_io F1 t (kx_yn F0 s t n q) (K k) a b)) => ?_)
      · refine kx_st 7 (pc' := 85) (L' := [some (.ref 0), some (.int (nI k)), some (.int c0), some (.ref (14 + k)), some (.int ((kx_sum (fun j => if (kx_pn F0 F1 s t q (K k) a b) j = true then 1 else 0) n) + 0)), some (.int (nI n))]) (st' := [.ref 1, .ref 43]) (h' := kv_wd (kv_uf g1 11 fo) w) rfl ?_
        obtain ⟨g2, eg, k1, k2⟩ := ev_goOn (E := E) (d := d + 2) (g := kv_uf g1 11 fo) (w := w) (kx_X_cg (fun b hb => kv_uf_ne (by omega)) hX1) _ h1.1
        refine kx_call (z := 61) (as := [.ref 43, .ref 1]) (rest := []) (v := none) (h1 := kv_wd g2 w) rfl eg ?_
        refine kx_st 0 (pc' := 88) (L' := [some (.ref 0), some (.int (nI k)), some (.int c0), some (.ref (14 + k)), some (.int ((kx_sum (fun j => if (kx_pn F0 F1 s t q (K k) a b) j = true then 1 else 0) n) + 0)), some (.int (nI n))]) (st' := []) (h' := kv_wd g2 w) rfl ?_
        refine kx_st 2 (pc' := 45) (L' := [some (.ref 0), some (.int (nI k)), some (.int c0), some (.ref (14 + k)), some (.int ((kx_sum (fun j => if (kx_pn F0 F1 s t q (K k) a b) j = true then 1 else 0) n) + 0)), some (.int ((nI n) + 1))]) (st' := []) (h' := kv_wd g2 w) rfl ?_
        have hh := ih (n + 1) g2 (by omega) ⟨k1, fun b b1 b2 b3 b4 b5 => (k2 b b1 b3 b4 b5).trans ((kv_uf_ne b2).trans (h1.2 b b1 b2 b3 b4 b5))⟩
        rw [show kx_sum (fun j => if (kx_pn F0 F1 s t q (K k) a b) j = true then 1 else 0) (n + 1) = kx_sum (fun j => if (kx_pn F0 F1 s t q (K k) a b) j = true then 1 else 0) n + 0 from by rw [kx_sum, if_neg (show ¬ (kx_pn F0 F1 s t q (K k) a b) n = true from fun z => h66 (of_decide_eq_true z))], nI_succ] at hh
        exact hh
      · refine kx_st 0 (pc' := 69) (L' := [some (.ref 0), some (.int (nI k)), some (.int c0), some (.ref (14 + k)), some (.int (kx_sum (fun j => if (kx_pn F0 F1 s t q (K k) a b) j = true then 1 else 0) n)), some (.int (nI n))]) (st' := [.int (kx_sum (fun j => if (kx_pn F0 F1 s t q (K k) a b) j = true then 1 else 0) n)]) (h' := kv_wd (kv_uf g1 11 fo) w) rfl ?_
        refine kx_st 8 (pc' := 85) (L' := [some (.ref 0), some (.int (nI k)), some (.int c0), some (.ref (14 + k)), some (.int ((kx_sum (fun j => if (kx_pn F0 F1 s t q (K k) a b) j = true then 1 else 0) n) + 1)), some (.int (nI n))]) (st' := [.ref 1, .ref 43]) (h' := kv_wd (kv_uf g1 11 fo) w) rfl ?_
        obtain ⟨g2, eg, k1, k2⟩ := ev_goOn (E := E) (d := d + 2) (g := kv_uf g1 11 fo) (w := w) (kx_X_cg (fun b hb => kv_uf_ne (by omega)) hX1) _ h1.1
        refine kx_call (z := 61) (as := [.ref 43, .ref 1]) (rest := []) (v := none) (h1 := kv_wd g2 w) rfl eg ?_
        refine kx_st 0 (pc' := 88) (L' := [some (.ref 0), some (.int (nI k)), some (.int c0), some (.ref (14 + k)), some (.int ((kx_sum (fun j => if (kx_pn F0 F1 s t q (K k) a b) j = true then 1 else 0) n) + 1)), some (.int (nI n))]) (st' := []) (h' := kv_wd g2 w) rfl ?_
        refine kx_st 2 (pc' := 45) (L' := [some (.ref 0), some (.int (nI k)), some (.int c0), some (.ref (14 + k)), some (.int ((kx_sum (fun j => if (kx_pn F0 F1 s t q (K k) a b) j = true then 1 else 0) n) + 1)), some (.int ((nI n) + 1))]) (st' := []) (h' := kv_wd g2 w) rfl ?_
        have hh := ih (n + 1) g2 (by omega) ⟨k1, fun b b1 b2 b3 b4 b5 => (k2 b b1 b3 b4 b5).trans ((kv_uf_ne b2).trans (h1.2 b b1 b2 b3 b4 b5))⟩
        rw [show kx_sum (fun j => if (kx_pn F0 F1 s t q (K k) a b) j = true then 1 else 0) (n + 1) = kx_sum (fun j => if (kx_pn F0 F1 s t q (K k) a b) j = true then 1 else 0) n + 1 from by rw [kx_sum, if_pos (show (kx_pn F0 F1 s t q (K k) a b) n = true from decide_eq_true h66)], nI_succ] at hh
        exact hh
set_option maxRecDepth 100000 in
theorem lp_modds {E : kv_V} {d : Nat} {w : kv_W} (q : kx_Q) (g : kv_S) {F0 F1 : kx_FF} {s t m : Nat} {K : Nat → Nat → Int32} (hM : kx_M F0 F1 s t m K (g 66)) (hqb : kx_qb q) (hF0 : kx_LF 0 F0) (k : Nat) (hkm : k < m) (hK : kx_K s k (K k) (K k)) (a b : Nat) (ha : a < s) (hb : b < s) (ka : K k 2 = nI a) (kb : K k 3 = nI b) (c0 : Int32) {P : Option Value → kv_H → Prop} (hP : ∀ g1 : kv_S, (kx_hmq (g1 66) (kx_yn F0 s t 10 q) ∧ (∀ j, 0 < j → (j < 8 ∨ 20 ≤ j) → g1 66 j = g 66 j) ∧ (∀ b, b ≠ 65 → b ≠ 66 → g1 b = g b) ∧ ∀ k, (k < 7 ∨ 14 < k) → g1 65 k = g 65 k) → kx_V E (d + 102) 199 74 [some (.ref 65), some (.int (nI k)), some (.int c0), some (.int (kx_sum (fun j => if (kx_pn F0 F1 s t q (K k) a b) j = true then 1 else 0) 10)), some (.int (nI 10))] [] (kv_wd g1 w) P) : ∀ (nz n : Nat) (g1 : kv_S), n + nz = 10 → (kx_hmq (g1 66) (kx_yn F0 s t n q) ∧ (∀ j, 0 < j → (j < 8 ∨ 20 ≤ j) → g1 66 j = g 66 j) ∧ (∀ b, b ≠ 65 → b ≠ 66 → g1 b = g b) ∧ ∀ k, (k < 7 ∨ 14 < k) → g1 65 k = g 65 k) → kx_V E (d + 102) 199 41 [some (.ref 65), some (.int (nI k)), some (.int c0), some (.int (kx_sum (fun j => if (kx_pn F0 F1 s t q (K k) a b) j = true then 1 else 0) n)), some (.int (nI n))] [] (kv_wd g1 w) P := by
  have hk8 : k < 8 := by have := hM.1.2.2.2; omega
  intro nz
  induction nz with
  | zero =>
    intro n g1 hi h1
    have hkN : n = 10 := by omega
    refine kx_st 2 (pc' := 45) (L' := [some (.ref 65), some (.int (nI k)), some (.int c0), some (.int (kx_sum (fun j => if (kx_pn F0 F1 s t q (K k) a b) j = true then 1 else 0) n)), some (.int (nI n))]) (st' := [.int 10, .int (nI n)]) (h' := kv_wd g1 w) rfl ?_
    refine kx_bi (t := 74) rfl rfl (fun (h45 : 10 ≤ nI n) => ?_) (fun (h45 : ¬ (10 ≤ nI n)) => ?_)
    · subst hkN
      exact hP g1 h1
    · exact absurd (nI_le (a := 10) (b := n) (by omega) (by omega)) h45
  | succ nz ih =>
    intro n g1 hi h1
    have hM1 : kx_M F0 F1 s t m K (g1 66) := kx_M_cg (fun j hj j0 _ => h1.2.1 j j0 hj) hM
    refine kx_st 2 (pc' := 45) (L' := [some (.ref 65), some (.int (nI k)), some (.int c0), some (.int (kx_sum (fun j => if (kx_pn F0 F1 s t q (K k) a b) j = true then 1 else 0) n)), some (.int (nI n))]) (st' := [.int 10, .int (nI n)]) (h' := kv_wd g1 w) rfl ?_
    refine kx_bi (t := 74) rfl rfl (fun (h45 : 10 ≤ nI n) => ?_) (fun (h45 : ¬ (10 ≤ nI n)) => ?_)
    · exact absurd h45 (nI_ge (a := n) (b := 10) (by omega) (by omega))
    · refine kx_st 0 (pc' := 48) (L' := [some (.ref 65), some (.int (nI k)), some (.int c0), some (.int (kx_sum (fun j => if (kx_pn F0 F1 s t q (K k) a b) j = true then 1 else 0) n)), some (.int (nI n))]) (st' := []) (h' := kv_wd g1 w) rfl ?_
      refine kx_st 3 (pc' := 51) (L' := [some (.ref 65), some (.int (nI k)), some (.int c0), some (.int (kx_sum (fun j => if (kx_pn F0 F1 s t q (K k) a b) j = true then 1 else 0) n)), some (.int (nI n))]) (st' := [.int (nI k), .ref 65, .int (kx_sum (fun j => if (kx_pn F0 F1 s t q (K k) a b) j = true then 1 else 0) n)]) (h' := kv_wd g1 w) rfl ?_
      obtain ⟨fo, ko, eo⟩ := ev_misOwn (E := E) (d := d) (g := g1) (w := w) hM1 _ h1.1 k hkm hK a b ha hb ka kb
      refine kx_call (z := 175) (as := [.ref 65, .int (nI k)]) (rest := [.int (kx_sum (fun j => if (kx_pn F0 F1 s t q (K k) a b) j = true then 1 else 0) n)]) (v := some (.int (kx_b (kx_io F1 t (kx_yn F0 s t n q) (K k) a b)))) (h1 := kv_wd (kv_uf g1 65 fo) w) rfl eo ?_
      refine kx_st 0 (pc' := 54) (L' := [some (.ref 65), some (.int (nI k)), some (.int c0), some (.int (kx_sum (fun j => if (kx_pn F0 F1 s t q (K k) a b) j = true then 1 else 0) n)), some (.int (nI n))]) (st' := [.int (kx_b (kx_io F1 t (kx_yn F0 s t n q) (K k) a b)), .int (kx_sum (fun j => if (kx_pn F0 F1 s t q (K k) a b) j = true then 1 else 0) n)]) (h' := kv_wd (kv_uf g1 65 fo) w) rfl ?_
      refine kx_be (t := 61) rfl rfl (fun (h54 : ¬ (kx_io F1 t (kx_yn F0 s t n q) (K k) a b)) => ?_) (fun (h54 : (kx_io F1 t (kx_yn F0 s t n q) (K k) a b)) => ?_)
      · refine kx_st 4 (pc' := 65) (L' := [some (.ref 65), some (.int (nI k)), some (.int c0), some (.int ((kx_sum (fun j => if (kx_pn F0 F1 s t q (K k) a b) j = true then 1 else 0) n) + 0)), some (.int (nI n))]) (st' := [.ref 65]) (h' := kv_wd (kv_uf g1 65 fo) w) rfl ?_
        obtain ⟨g2, eg, k1, k2, k3, k4⟩ := ev_oneYear (E := E) (d := d + 1) (g := kv_uf g1 65 fo) (w := w) hM1 _ h1.1
        refine kx_call (z := 178) (as := [.ref 65]) (rest := []) (v := none) (h1 := kv_wd g2 w) rfl eg ?_
        refine kx_st 0 (pc' := 68) (L' := [some (.ref 65), some (.int (nI k)), some (.int c0), some (.int ((kx_sum (fun j => if (kx_pn F0 F1 s t q (K k) a b) j = true then 1 else 0) n) + 0)), some (.int (nI n))]) (st' := []) (h' := kv_wd g2 w) rfl ?_
        refine kx_st 2 (pc' := 41) (L' := [some (.ref 65), some (.int (nI k)), some (.int c0), some (.int ((kx_sum (fun j => if (kx_pn F0 F1 s t q (K k) a b) j = true then 1 else 0) n) + 0)), some (.int ((nI n) + 1))]) (st' := []) (h' := kv_wd g2 w) rfl ?_
        have hh := ih (n + 1) g2 (by omega) ⟨k1, fun j j0 hj => (k2 j j0 hj).trans (h1.2.1 j j0 hj), fun b b1 b2 => (k3 b b1 b2).trans ((kv_uf_ne b1).trans (h1.2.2.1 b b1 b2)), fun z hz => (k4 z hz).trans ((ko z hz).trans (h1.2.2.2 z hz))⟩
        rw [show kx_sum (fun j => if (kx_pn F0 F1 s t q (K k) a b) j = true then 1 else 0) (n + 1) = kx_sum (fun j => if (kx_pn F0 F1 s t q (K k) a b) j = true then 1 else 0) n + 0 from by rw [kx_sum, if_neg (show ¬ (kx_pn F0 F1 s t q (K k) a b) n = true from fun z => h54 (of_decide_eq_true z))], nI_succ] at hh
        exact hh
      · refine kx_st 0 (pc' := 57) (L' := [some (.ref 65), some (.int (nI k)), some (.int c0), some (.int (kx_sum (fun j => if (kx_pn F0 F1 s t q (K k) a b) j = true then 1 else 0) n)), some (.int (nI n))]) (st' := [.int (kx_sum (fun j => if (kx_pn F0 F1 s t q (K k) a b) j = true then 1 else 0) n)]) (h' := kv_wd (kv_uf g1 65 fo) w) rfl ?_
        refine kx_st 5 (pc' := 65) (L' := [some (.ref 65), some (.int (nI k)), some (.int c0), some (.int ((kx_sum (fun j => if (kx_pn F0 F1 s t q (K k) a b) j = true then 1 else 0) n) + 1)), some (.int (nI n))]) (st' := [.ref 65]) (h' := kv_wd (kv_uf g1 65 fo) w) rfl ?_
        obtain ⟨g2, eg, k1, k2, k3, k4⟩ := ev_oneYear (E := E) (d := d + 1) (g := kv_uf g1 65 fo) (w := w) hM1 _ h1.1
        refine kx_call (z := 178) (as := [.ref 65]) (rest := []) (v := none) (h1 := kv_wd g2 w) rfl eg ?_
        refine kx_st 0 (pc' := 68) (L' := [some (.ref 65), some (.int (nI k)), some (.int c0), some (.int ((kx_sum (fun j => if (kx_pn F0 F1 s t q (K k) a b) j = true then 1 else 0) n) + 1)), some (.int (nI n))]) (st' := []) (h' := kv_wd g2 w) rfl ?_
        refine kx_st 2 (pc' := 41) (L' := [some (.ref 65), some (.int (nI k)), some (.int c0), some (.int ((kx_sum (fun j => if (kx_pn F0 F1 s t q (K k) a b) j = true then 1 else 0) n) + 1)), some (.int ((nI n) + 1))]) (st' := []) (h' := kv_wd g2 w) rfl ?_
        have hh := ih (n + 1) g2 (by omega) ⟨k1, fun j j0 hj => (k2 j j0 hj).trans (h1.2.1 j j0 hj), fun b b1 b2 => (k3 b b1 b2).trans ((kv_uf_ne b1).trans (h1.2.2.1 b b1 b2)), fun z hz => (k4 z hz).trans ((ko z hz).trans (h1.2.2.2 z hz))⟩
        rw [show kx_sum (fun j => if (kx_pn F0 F1 s t q (K k) a b) j = true then 1 else 0) (n + 1) = kx_sum (fun j => if (kx_pn F0 F1 s t q (K k) a b) j = true then 1 else 0) n + 1 from by rw [kx_sum, if_pos (show (kx_pn F0 F1 s t q (K k) a b) n = true from decide_eq_true h54)], nI_succ] at hh
        exact hh
set_option maxRecDepth 100000 in
theorem pr_last {E : kv_V} (a : Int32) : kx_ok2 E (kx_Rl kx_L) 98 186 [.int a] := by
  intro g w i hR hi
  obtain ⟨F0, F1, s, t, m, K, hF0, hF1, hX, hM, hKB, hKe⟩ := kx_Rl_XMK hR
  obtain ⟨q0, hq0, hm0, hb0, hy0⟩ := kx_Rl_q hR
  have q := hR.1
  have b1 := hX.2.1.1
  have b2 := hM.2.1.1
  have a1 := hX.1.1
  have a2 := hX.1.2.1
  have a4 := hX.1.2.2.2
  have d1 := hX.2.1.2.2
  have d2 := hM.2.1.2
  by_cases hv : 0 ≤ a ∧ a < nI m
  · obtain ⟨k, hkm, rfl⟩ := kx_nIlt hv.1 hv.2 (by omega)
    have hk8 : k < 8 := by omega
    have hK := hKB k hkm
    have kk : ∀ c, c < 9 → g (14 + k) c = K k c := hX.2.2.2.2 k hkm
    obtain ⟨x, y, hx, hy, hxy, ka, kb⟩ := hK.2.2.2.1
    refine kx_two (by decide) (Nat.le_of_ble_eq_true rfl) (by decide) (Nat.le_of_ble_eq_true rfl) ?_
    refine kx_st 0 (pc' := 0) (L' := [some (.ref 0), some (.int (nI k)), none, none, none]) (st' := []) (h' := kv_wd g w) rfl ?_
    refine kx_st 3 (pc' := 5) (L' := [some (.ref 0), some (.int (nI k)), none, none, none]) (st' := [.int (nI k), .ref 1]) (h' := kv_wd g w) rfl ?_
    refine kx_call (z := 17) (as := [.ref 1, .int (nI k)]) (rest := []) (v := some (.ref (14 + k))) (h1 := kv_wd g w) rfl (ev_knotAt (d := 898) (g := g) q k hk8 (by rw [d1]; exact nI_lt hkm (by omega))) ?_
    refine kx_st 0 (pc' := 8) (L' := [some (.ref 0), some (.int (nI k)), none, none, none]) (st' := [.ref (14 + k)]) (h' := kv_wd g w) rfl ?_
    refine kx_st 2 (pc' := 10) (L' := [some (.ref 0), some (.int (nI k)), some (.ref (14 + k)), none, none]) (st' := [.ref (14 + k)]) (h' := kv_wd g w) rfl ?_
    refine kx_st 1 (pc' := 19) (L' := [some (.ref 0), some (.int (nI k)), some (.ref (14 + k)), none, none]) (st' := []) (h' := kv_wd g w) rfl ?_
    refine kx_st 7 (pc' := 30) (L' := [some (.ref 0), some (.int (nI k)), some (.ref (14 + k)), some (.int (-1)), none]) (st' := [.int 0, .ref 1, .ref 43]) (h' := kv_wd g w) rfl ?_
    obtain ⟨g30, e30, q30, r30⟩ := ev_goBehind (E := E) (d := 891) (w := w) hX q0 hq0 0 (by omega)
    have X30 : kx_X F0 F1 s t m K g30 := kx_X_cg (fun b hb => r30 b (by omega) (by omega) (by omega) (by omega)) hX
    have M30 : kx_M F0 F1 s t m K (g30 66) := by rw [r30 66 (by omega) (by omega) (by omega) (by omega)]; exact hM
    have m30 : kx_hmq (g30 66) q0 := by rw [r30 66 (by omega) (by omega) (by omega) (by omega)]; exact hm0
    refine kx_call (z := 60) (as := [.ref 43, .ref 1, .int 0]) (rest := []) (v := none) (h1 := kv_wd g30 w) rfl e30 ?_
    refine kx_st 0 (pc' := 33) (L' := [some (.ref 0), some (.int (nI k)), some (.ref (14 + k)), some (.int (-1)), none]) (st' := []) (h' := kv_wd g30 w) rfl ?_
    refine kx_st 2 (pc' := 36) (L' := [some (.ref 0), some (.int (nI k)), some (.ref (14 + k)), some (.int (-1)), some (.int 0)]) (st' := []) (h' := kv_wd g30 w) rfl ?_
    refine lp_xlast (d := 890) q0 g hX hb0 hF0 k hkm hK x y hx hy ka kb (fun g36 r36 => ?_) 61 0 g30 (by omega) ⟨q30, fun b b1 b2 b3 b4 b5 => r30 b b1 b3 b4 b5⟩
    refine kx_st 0 (pc' := 78) (L' := [some (.ref 0), some (.int (nI k)), some (.ref (14 + k)), some (.int (kx_lat (kx_pn F0 F1 s t q0 (K k) x y) 61)), some (.int (nI 61))]) (st' := []) (h' := kv_wd g36 w) rfl ?_
    refine kx_st 1 (pc' := 79) (L' := [some (.ref 0), some (.int (nI k)), some (.ref (14 + k)), some (.int (kx_lat (kx_pn F0 F1 s t q0 (K k) x y) 61)), some (.int (nI 61))]) (st' := [.int (kx_lat (kx_pn F0 F1 s t q0 (K k) x y) 61)]) (h' := kv_wd g36 w) rfl ?_
    refine kx_bc (t := 90) rfl rfl (fun (h79 : 0 ≤ kx_lat (kx_pn F0 F1 s t q0 (K k) x y) 61) => ?_) (fun (h79 : ¬ (0 ≤ kx_lat (kx_pn F0 F1 s t q0 (K k) x y) 61)) => ?_)
    · refine kx_st 1 (pc' := 91) (L' := [some (.ref 0), some (.int (nI k)), some (.ref (14 + k)), some (.int (kx_lat (kx_pn F0 F1 s t q0 (K k) x y) 61)), some (.int (nI 61))]) (st' := [.int (kx_lat (kx_pn F0 F1 s t q0 (K k) x y) 61)]) (h' := kv_wd g36 w) rfl ?_
      refine kx_ret (v := some (.int (kx_lat (kx_pn F0 F1 s t q0 (K k) x y) 61))) rfl ?_
      refine ⟨_, _, _, rfl, rfl, ?_⟩
      refine kx_st 0 (pc' := 0) (L' := [some (.ref 65), some (.int (nI k)), none, none]) (st' := []) (h' := kv_wd g36 w) rfl ?_
      refine kx_st 2 (pc' := 2) (L' := [some (.ref 65), some (.int (nI k)), none, none]) (st' := [.int (nI k), .ref 65]) (h' := kv_wd g36 w) rfl ?_
      refine kx_call (z := 139) (as := [.ref 65, .int (nI k)]) (rest := []) (v := some (.int (kx_b (0 ≤ nI k ∧ nI k < nI m)))) (h1 := kv_wd g36 w) rfl (ev_mKnotS (d := 897) (g := g36) (s := m) (by show g36 66 2 = _; rw [(r36.2 66 (by omega) (by omega) (by omega) (by omega) (by omega))]; exact d2) a4 (nI k)) ?_
      refine kx_st 0 (pc' := 5) (L' := [some (.ref 65), some (.int (nI k)), none, none]) (st' := [.int (kx_b (0 ≤ nI k ∧ nI k < nI m))]) (h' := kv_wd g36 w) rfl ?_
      refine kx_bn (t := 15) rfl rfl (fun (m5 : (0 ≤ nI k ∧ nI k < nI m)) => ?_) (fun (m5 : ¬ (0 ≤ nI k ∧ nI k < nI m)) => ?_)
      · refine kx_st 7 (pc' := 26) (L' := [some (.ref 65), some (.int (nI k)), some (.int (-1)), none]) (st' := [.ref 68, .ref 66, .ref 65]) (h' := kv_wd g36 w) rfl ?_
        refine kx_call (z := 133) (as := [.ref 65, .ref 66, .ref 68]) (rest := []) (v := none) (h1 := kv_wd (kv_uf g36 68 (kx_mv (g36 66) (g36 68) 268)) w) rfl (ev_moveAll (d := 898) (a := 66) (b := 68) rfl rfl (by decide) (by decide) (by decide)) ?_
        refine kx_st 0 (pc' := 29) (L' := [some (.ref 65), some (.int (nI k)), some (.int (-1)), none]) (st' := []) (h' := kv_wd (kv_uf g36 68 (kx_mv (g36 66) (g36 68) 268)) w) rfl ?_
        refine kx_st 2 (pc' := 31) (L' := [some (.ref 65), some (.int (nI k)), some (.int (-1)), some (.int 0)]) (st' := []) (h' := kv_wd (kv_uf g36 68 (kx_mv (g36 66) (g36 68) 268)) w) rfl ?_
        have M36 : kx_M F0 F1 s t m K (g36 66) := by rw [(r36.2 66 (by omega) (by omega) (by omega) (by omega) (by omega))]; exact hM
        have m36 : kx_hmq (g36 66) q0 := by rw [(r36.2 66 (by omega) (by omega) (by omega) (by omega) (by omega))]; exact hm0
        refine lp_mlast (d := 797) q0 (kv_uf g36 68 (kx_mv (g36 66) (g36 68) 268)) M36 hb0 hF0 k hkm hK x y hx hy ka kb (fun g31 r31 => ?_) 61 0 (kv_uf g36 68 (kx_mv (g36 66) (g36 68) 268)) (by omega) ⟨m36, fun _ _ _ => rfl, fun _ _ _ => rfl, fun _ _ => rfl⟩
        refine kx_st 0 (pc' := 61) (L' := [some (.ref 65), some (.int (nI k)), some (.int (kx_lat (kx_pn F0 F1 s t q0 (K k) x y) 61)), some (.int (nI 61))]) (st' := []) (h' := kv_wd g31 w) rfl ?_
        refine kx_st 5 (pc' := 70) (L' := [some (.ref 65), some (.int (nI k)), some (.int (kx_lat (kx_pn F0 F1 s t q0 (K k) x y) 61)), some (.int (nI 61))]) (st' := [.ref 66, .ref 68, .ref 65]) (h' := kv_wd g31 w) rfl ?_
        refine kx_call (z := 133) (as := [.ref 65, .ref 68, .ref 66]) (rest := []) (v := none) (h1 := kv_wd (kv_uf g31 66 (kx_mv (g31 68) (g31 66) 268)) w) rfl (ev_moveAll (d := 898) (a := 68) (b := 66) rfl rfl (by decide) (by decide) (by decide)) ?_
        refine kx_st 0 (pc' := 73) (L' := [some (.ref 65), some (.int (nI k)), some (.int (kx_lat (kx_pn F0 F1 s t q0 (K k) x y) 61)), some (.int (nI 61))]) (st' := []) (h' := kv_wd (kv_uf g31 66 (kx_mv (g31 68) (g31 66) 268)) w) rfl ?_
        refine kx_st 1 (pc' := 74) (L' := [some (.ref 65), some (.int (nI k)), some (.int (kx_lat (kx_pn F0 F1 s t q0 (K k) x y) 61)), some (.int (nI 61))]) (st' := [.int (kx_lat (kx_pn F0 F1 s t q0 (K k) x y) 61)]) (h' := kv_wd (kv_uf g31 66 (kx_mv (g31 68) (g31 66) 268)) w) rfl ?_
        refine kx_bc (t := 86) rfl rfl (fun (m74 : 0 ≤ kx_lat (kx_pn F0 F1 s t q0 (K k) x y) 61) => ?_) (fun (m74 : ¬ (0 ≤ kx_lat (kx_pn F0 F1 s t q0 (K k) x y) 61)) => ?_)
        · refine kx_st 1 (pc' := 87) (L' := [some (.ref 65), some (.int (nI k)), some (.int (kx_lat (kx_pn F0 F1 s t q0 (K k) x y) 61)), some (.int (nI 61))]) (st' := [.int (kx_lat (kx_pn F0 F1 s t q0 (K k) x y) 61)]) (h' := kv_wd (kv_uf g31 66 (kx_mv (g31 68) (g31 66) 268)) w) rfl ?_
          refine kx_ret (v := some (.int (kx_lat (kx_pn F0 F1 s t q0 (K k) x y) 61))) rfl ?_
          exact ⟨rfl, _, _, rfl, kx_Rl_skip _ _ _ _ (kx_Rl_ro hR rfl (fun b h8 h11 h4 h65 h66 h68 h69 => (by rw [kv_uf_ne h66]; exact (r31.2.2.1 b h65 h66).trans (by rw [kv_uf_ne h68]; exact r36.2 b h8 h11 (by omega) (by omega) (by omega)))) (fun z hz => (r31.2.2.2 z hz).trans (congrFun (r36.2 65 (by omega) (by omega) (by omega) (by omega) (by omega)) z)) (fun j hj => (kx_tm_end (g := g36) r31.2.2.1 j hj).trans (congrFun (r36.2 66 (by omega) (by omega) (by omega) (by omega) (by omega)) j)))⟩
        · exact absurd h79 m74
      · exact absurd hv m5
    · refine kx_st 0 (pc' := 82) (L' := [some (.ref 0), some (.int (nI k)), some (.ref (14 + k)), some (.int (kx_lat (kx_pn F0 F1 s t q0 (K k) x y) 61)), some (.int (nI 61))]) (st' := []) (h' := kv_wd g36 w) rfl ?_
      refine kx_st 2 (pc' := 84) (L' := [some (.ref 0), some (.int (nI k)), some (.ref (14 + k)), some (.int (kx_lat (kx_pn F0 F1 s t q0 (K k) x y) 61)), some (.int (nI 61))]) (st' := [.int 2, .ref 0]) (h' := kv_wd g36 w) rfl ?_
      refine kx_call (z := 123) (as := [.ref 0, .int 2]) (rest := []) (v := some (.int (-1000000000 - nI 2))) (h1 := kv_wd (kv_up g36 64 2 (g36 64 2 + 1)) w) rfl (ev_error (d := 898) 2 (by decide) (by decide)) ?_
      refine kx_st 0 (pc' := 87) (L' := [some (.ref 0), some (.int (nI k)), some (.ref (14 + k)), some (.int (kx_lat (kx_pn F0 F1 s t q0 (K k) x y) 61)), some (.int (nI 61))]) (st' := [.int (-1000000000 - nI 2)]) (h' := kv_wd (kv_up g36 64 2 (g36 64 2 + 1)) w) rfl ?_
      refine kx_st 1 (pc' := 91) (L' := [some (.ref 0), some (.int (nI k)), some (.ref (14 + k)), some (.int (kx_lat (kx_pn F0 F1 s t q0 (K k) x y) 61)), some (.int (nI 61))]) (st' := [.int (-1000000000 - nI 2)]) (h' := kv_wd (kv_up g36 64 2 (g36 64 2 + 1)) w) rfl ?_
      refine kx_ret (v := some (.int (-1000000000 - nI 2))) rfl ?_
      refine ⟨_, _, _, rfl, rfl, ?_⟩
      refine kx_st 0 (pc' := 0) (L' := [some (.ref 65), some (.int (nI k)), none, none]) (st' := []) (h' := kv_wd (kv_up g36 64 2 (g36 64 2 + 1)) w) rfl ?_
      refine kx_st 2 (pc' := 2) (L' := [some (.ref 65), some (.int (nI k)), none, none]) (st' := [.int (nI k), .ref 65]) (h' := kv_wd (kv_up g36 64 2 (g36 64 2 + 1)) w) rfl ?_
      refine kx_call (z := 139) (as := [.ref 65, .int (nI k)]) (rest := []) (v := some (.int (kx_b (0 ≤ nI k ∧ nI k < nI m)))) (h1 := kv_wd (kv_up g36 64 2 (g36 64 2 + 1)) w) rfl (ev_mKnotS (d := 897) (g := kv_up g36 64 2 (g36 64 2 + 1)) (s := m) (by show g36 66 2 = _; rw [(r36.2 66 (by omega) (by omega) (by omega) (by omega) (by omega))]; exact d2) a4 (nI k)) ?_
      refine kx_st 0 (pc' := 5) (L' := [some (.ref 65), some (.int (nI k)), none, none]) (st' := [.int (kx_b (0 ≤ nI k ∧ nI k < nI m))]) (h' := kv_wd (kv_up g36 64 2 (g36 64 2 + 1)) w) rfl ?_
      refine kx_bn (t := 15) rfl rfl (fun (m5 : (0 ≤ nI k ∧ nI k < nI m)) => ?_) (fun (m5 : ¬ (0 ≤ nI k ∧ nI k < nI m)) => ?_)
      · refine kx_st 7 (pc' := 26) (L' := [some (.ref 65), some (.int (nI k)), some (.int (-1)), none]) (st' := [.ref 68, .ref 66, .ref 65]) (h' := kv_wd (kv_up g36 64 2 (g36 64 2 + 1)) w) rfl ?_
        refine kx_call (z := 133) (as := [.ref 65, .ref 66, .ref 68]) (rest := []) (v := none) (h1 := kv_wd (kv_uf (kv_up g36 64 2 (g36 64 2 + 1)) 68 (kx_mv ((kv_up g36 64 2 (g36 64 2 + 1)) 66) ((kv_up g36 64 2 (g36 64 2 + 1)) 68) 268)) w) rfl (ev_moveAll (d := 898) (a := 66) (b := 68) rfl rfl (by decide) (by decide) (by decide)) ?_
        refine kx_st 0 (pc' := 29) (L' := [some (.ref 65), some (.int (nI k)), some (.int (-1)), none]) (st' := []) (h' := kv_wd (kv_uf (kv_up g36 64 2 (g36 64 2 + 1)) 68 (kx_mv ((kv_up g36 64 2 (g36 64 2 + 1)) 66) ((kv_up g36 64 2 (g36 64 2 + 1)) 68) 268)) w) rfl ?_
        refine kx_st 2 (pc' := 31) (L' := [some (.ref 65), some (.int (nI k)), some (.int (-1)), some (.int 0)]) (st' := []) (h' := kv_wd (kv_uf (kv_up g36 64 2 (g36 64 2 + 1)) 68 (kx_mv ((kv_up g36 64 2 (g36 64 2 + 1)) 66) ((kv_up g36 64 2 (g36 64 2 + 1)) 68) 268)) w) rfl ?_
        have M36 : kx_M F0 F1 s t m K (g36 66) := by rw [(r36.2 66 (by omega) (by omega) (by omega) (by omega) (by omega))]; exact hM
        have m36 : kx_hmq (g36 66) q0 := by rw [(r36.2 66 (by omega) (by omega) (by omega) (by omega) (by omega))]; exact hm0
        refine lp_mlast (d := 797) q0 (kv_uf (kv_up g36 64 2 (g36 64 2 + 1)) 68 (kx_mv ((kv_up g36 64 2 (g36 64 2 + 1)) 66) ((kv_up g36 64 2 (g36 64 2 + 1)) 68) 268)) M36 hb0 hF0 k hkm hK x y hx hy ka kb (fun g31 r31 => ?_) 61 0 (kv_uf (kv_up g36 64 2 (g36 64 2 + 1)) 68 (kx_mv ((kv_up g36 64 2 (g36 64 2 + 1)) 66) ((kv_up g36 64 2 (g36 64 2 + 1)) 68) 268)) (by omega) ⟨m36, fun _ _ _ => rfl, fun _ _ _ => rfl, fun _ _ => rfl⟩
        refine kx_st 0 (pc' := 61) (L' := [some (.ref 65), some (.int (nI k)), some (.int (kx_lat (kx_pn F0 F1 s t q0 (K k) x y) 61)), some (.int (nI 61))]) (st' := []) (h' := kv_wd g31 w) rfl ?_
        refine kx_st 5 (pc' := 70) (L' := [some (.ref 65), some (.int (nI k)), some (.int (kx_lat (kx_pn F0 F1 s t q0 (K k) x y) 61)), some (.int (nI 61))]) (st' := [.ref 66, .ref 68, .ref 65]) (h' := kv_wd g31 w) rfl ?_
        refine kx_call (z := 133) (as := [.ref 65, .ref 68, .ref 66]) (rest := []) (v := none) (h1 := kv_wd (kv_uf g31 66 (kx_mv (g31 68) (g31 66) 268)) w) rfl (ev_moveAll (d := 898) (a := 68) (b := 66) rfl rfl (by decide) (by decide) (by decide)) ?_
        refine kx_st 0 (pc' := 73) (L' := [some (.ref 65), some (.int (nI k)), some (.int (kx_lat (kx_pn F0 F1 s t q0 (K k) x y) 61)), some (.int (nI 61))]) (st' := []) (h' := kv_wd (kv_uf g31 66 (kx_mv (g31 68) (g31 66) 268)) w) rfl ?_
        refine kx_st 1 (pc' := 74) (L' := [some (.ref 65), some (.int (nI k)), some (.int (kx_lat (kx_pn F0 F1 s t q0 (K k) x y) 61)), some (.int (nI 61))]) (st' := [.int (kx_lat (kx_pn F0 F1 s t q0 (K k) x y) 61)]) (h' := kv_wd (kv_uf g31 66 (kx_mv (g31 68) (g31 66) 268)) w) rfl ?_
        refine kx_bc (t := 86) rfl rfl (fun (m74 : 0 ≤ kx_lat (kx_pn F0 F1 s t q0 (K k) x y) 61) => ?_) (fun (m74 : ¬ (0 ≤ kx_lat (kx_pn F0 F1 s t q0 (K k) x y) 61)) => ?_)
        · exact absurd m74 h79
        · refine kx_st 0 (pc' := 77) (L' := [some (.ref 65), some (.int (nI k)), some (.int (kx_lat (kx_pn F0 F1 s t q0 (K k) x y) 61)), some (.int (nI 61))]) (st' := []) (h' := kv_wd (kv_uf g31 66 (kx_mv (g31 68) (g31 66) 268)) w) rfl ?_
          refine kx_st 2 (pc' := 80) (L' := [some (.ref 65), some (.int (nI k)), some (.int (kx_lat (kx_pn F0 F1 s t q0 (K k) x y) 61)), some (.int (nI 61))]) (st' := [.int (-1000000002), .ref 65]) (h' := kv_wd (kv_uf g31 66 (kx_mv (g31 68) (g31 66) 268)) w) rfl ?_
          refine kx_call (z := 131) (as := [.ref 65, .int (-1000000002)]) (rest := []) (v := some (.int (-1000000002))) (h1 := kv_wd (kv_up (kv_uf g31 66 (kx_mv (g31 68) (g31 66) 268)) 70 2 ((kv_uf g31 66 (kx_mv (g31 68) (g31 66) 268)) 70 2 + 1)) w) rfl (ev_errs (d := 898) (-1000000002) 2 (by decide) (by decide)) ?_
          refine kx_st 0 (pc' := 83) (L' := [some (.ref 65), some (.int (nI k)), some (.int (kx_lat (kx_pn F0 F1 s t q0 (K k) x y) 61)), some (.int (nI 61))]) (st' := [.int (-1000000002)]) (h' := kv_wd (kv_up (kv_uf g31 66 (kx_mv (g31 68) (g31 66) 268)) 70 2 ((kv_uf g31 66 (kx_mv (g31 68) (g31 66) 268)) 70 2 + 1)) w) rfl ?_
          refine kx_st 1 (pc' := 87) (L' := [some (.ref 65), some (.int (nI k)), some (.int (kx_lat (kx_pn F0 F1 s t q0 (K k) x y) 61)), some (.int (nI 61))]) (st' := [.int (-1000000002)]) (h' := kv_wd (kv_up (kv_uf g31 66 (kx_mv (g31 68) (g31 66) 268)) 70 2 ((kv_uf g31 66 (kx_mv (g31 68) (g31 66) 268)) 70 2 + 1)) w) rfl ?_
          refine kx_ret (v := some (.int (-1000000002))) rfl ?_
          refine ⟨rfl, _, _, rfl, kx_Rl_roe (k := 2) hR rfl (fun b h8 h11 h4 h64 h65 h66 h68 h69 h70 => (by rw [kv_up_ne h70, kv_uf_ne h66]; exact (r31.2.2.1 b h65 h66).trans (by rw [kv_uf_ne h68, kv_up_ne h64]; exact r36.2 b h8 h11 (by omega) (by omega) (by omega)))) (fun z hz => (r31.2.2.2 z hz).trans (congrFun (r36.2 65 (by omega) (by omega) (by omega) (by omega) (by omega)) z)) (fun j hj => (kx_tm_end (g := kv_up g36 64 2 (g36 64 2 + 1)) r31.2.2.1 j hj).trans (congrFun (r36.2 66 (by omega) (by omega) (by omega) (by omega) (by omega)) j)) ?_ ?_⟩
          · show g31 64 = _
            rw [r31.2.2.1 64 (by omega) (by omega)]
            show upd (g36 64) 2 (g36 64 2 + 1) = _
            rw [r36.2 64 (by omega) (by omega) (by omega) (by omega) (by omega)]
          · show upd (g31 70) 2 (g31 70 2 + 1) = _
            rw [r31.2.2.1 70 (by omega) (by omega)]
            show upd (g36 70) 2 (g36 70 2 + 1) = _
            rw [r36.2 70 (by omega) (by omega) (by omega) (by omega) (by omega)]
      · exact absurd hv m5
  · refine kx_two (by decide) (Nat.le_of_ble_eq_true rfl) (by decide) (Nat.le_of_ble_eq_true rfl) ?_
    refine kx_st 0 (pc' := 0) (L' := [some (.ref 0), some (.int a), none, none, none]) (st' := []) (h' := kv_wd g w) rfl ?_
    refine kx_st 3 (pc' := 5) (L' := [some (.ref 0), some (.int a), none, none, none]) (st' := [.int a, .ref 1]) (h' := kv_wd g w) rfl ?_
    refine kx_call (z := 17) (as := [.ref 1, .int a]) (rest := []) (v := some (.null)) (h1 := kv_wd g w) rfl (ev_knotAt_n (d := 898) (g := g) a (by rw [d1]; exact hv)) ?_
    refine kx_st 0 (pc' := 8) (L' := [some (.ref 0), some (.int a), none, none, none]) (st' := [.null]) (h' := kv_wd g w) rfl ?_
    refine kx_st 2 (pc' := 10) (L' := [some (.ref 0), some (.int a), some (.null), none, none]) (st' := [.null]) (h' := kv_wd g w) rfl ?_
    refine kx_st 1 (pc' := 13) (L' := [some (.ref 0), some (.int a), some (.null), none, none]) (st' := []) (h' := kv_wd g w) rfl ?_
    refine kx_st 2 (pc' := 15) (L' := [some (.ref 0), some (.int a), some (.null), none, none]) (st' := [.int 1, .ref 0]) (h' := kv_wd g w) rfl ?_
    refine kx_call (z := 123) (as := [.ref 0, .int 1]) (rest := []) (v := some (.int (-1000000000 - nI 1))) (h1 := kv_wd (kv_up g 64 1 (g 64 1 + 1)) w) rfl (ev_error (d := 898) 1 (by decide) (by decide)) ?_
    refine kx_st 0 (pc' := 18) (L' := [some (.ref 0), some (.int a), some (.null), none, none]) (st' := [.int (-1000000000 - nI 1)]) (h' := kv_wd (kv_up g 64 1 (g 64 1 + 1)) w) rfl ?_
    refine kx_ret (v := some (.int (-1000000000 - nI 1))) rfl ?_
    refine ⟨_, _, _, rfl, rfl, ?_⟩
    refine kx_st 0 (pc' := 0) (L' := [some (.ref 65), some (.int a), none, none]) (st' := []) (h' := kv_wd (kv_up g 64 1 (g 64 1 + 1)) w) rfl ?_
    refine kx_st 2 (pc' := 2) (L' := [some (.ref 65), some (.int a), none, none]) (st' := [.int a, .ref 65]) (h' := kv_wd (kv_up g 64 1 (g 64 1 + 1)) w) rfl ?_
    refine kx_call (z := 139) (as := [.ref 65, .int a]) (rest := []) (v := some (.int (kx_b (0 ≤ a ∧ a < nI m)))) (h1 := kv_wd (kv_up g 64 1 (g 64 1 + 1)) w) rfl (ev_mKnotS (d := 897) (g := kv_up g 64 1 (g 64 1 + 1)) (s := m) (by first | exact d2 | (rw [kv_up_ne (by omega)]; exact d2)) a4 a) ?_
    refine kx_st 0 (pc' := 5) (L' := [some (.ref 65), some (.int a), none, none]) (st' := [.int (kx_b (0 ≤ a ∧ a < nI m))]) (h' := kv_wd (kv_up g 64 1 (g 64 1 + 1)) w) rfl ?_
    refine kx_bn (t := 15) rfl rfl (fun (m5 : (0 ≤ a ∧ a < nI m)) => ?_) (fun (m5 : ¬ (0 ≤ a ∧ a < nI m)) => ?_)
    · exact absurd m5 hv
    · refine kx_st 0 (pc' := 8) (L' := [some (.ref 65), some (.int a), none, none]) (st' := []) (h' := kv_wd (kv_up g 64 1 (g 64 1 + 1)) w) rfl ?_
      refine kx_st 2 (pc' := 11) (L' := [some (.ref 65), some (.int a), none, none]) (st' := [.int (-1000000001), .ref 65]) (h' := kv_wd (kv_up g 64 1 (g 64 1 + 1)) w) rfl ?_
      refine kx_call (z := 131) (as := [.ref 65, .int (-1000000001)]) (rest := []) (v := some (.int (-1000000001))) (h1 := kv_wd (kv_up (kv_up g 64 1 (g 64 1 + 1)) 70 1 ((kv_up g 64 1 (g 64 1 + 1)) 70 1 + 1)) w) rfl (ev_errs (d := 898) (-1000000001) 1 (by decide) (by decide)) ?_
      refine kx_st 0 (pc' := 14) (L' := [some (.ref 65), some (.int a), none, none]) (st' := [.int (-1000000001)]) (h' := kv_wd (kv_up (kv_up g 64 1 (g 64 1 + 1)) 70 1 ((kv_up g 64 1 (g 64 1 + 1)) 70 1 + 1)) w) rfl ?_
      refine kx_ret (v := some (.int (-1000000001))) rfl ?_
      exact ⟨rfl, _, _, rfl, kx_Rl_e hR⟩
set_option maxRecDepth 100000 in
theorem pr_odds {E : kv_V} (a b : Int32) : kx_ok2 E (kx_Rl kx_L) 107 199 [.int a, .int b] := by
  intro g w i hR hi
  obtain ⟨F0, F1, s, t, m, K, hF0, hF1, hX, hM, hKB, hKe⟩ := kx_Rl_XMK hR
  obtain ⟨q0, hq0, hm0, hb0, hy0⟩ := kx_Rl_q hR
  have q := hR.1
  have b1 := hX.2.1.1
  have b2 := hM.2.1.1
  have a1 := hX.1.1
  have a2 := hX.1.2.1
  have a4 := hX.1.2.2.2
  have d1 := hX.2.1.2.2
  have d2 := hM.2.1.2
  by_cases hv : 0 ≤ a ∧ a < nI m
  · obtain ⟨k, hkm, rfl⟩ := kx_nIlt hv.1 hv.2 (by omega)
    have hk8 : k < 8 := by omega
    have hK := hKB k hkm
    have kk : ∀ c, c < 9 → g (14 + k) c = K k c := hX.2.2.2.2 k hkm
    obtain ⟨x, y, hx, hy, hxy, ka, kb⟩ := hK.2.2.2.1
    by_cases hc : 0 ≤ b ∧ b ≤ 1
    · obtain ⟨cc, cc10, hcc⟩ := kx_sum_b (p := (kx_pn F0 F1 s t q0 (K k) x y)) 10 (by omega)
      obtain ⟨-, cdz⟩ := kx_ec_ok cc (by omega)
      rcases kx_b1 hc with rfl | rfl
      · refine kx_two (by decide) (Nat.le_of_ble_eq_true rfl) (by decide) (Nat.le_of_ble_eq_true rfl) ?_
        refine kx_st 0 (pc' := 0) (L' := [some (.ref 0), some (.int (nI k)), some (.int 0), none, none, none]) (st' := []) (h' := kv_wd g w) rfl ?_
        refine kx_st 3 (pc' := 5) (L' := [some (.ref 0), some (.int (nI k)), some (.int 0), none, none, none]) (st' := [.int (nI k), .ref 1]) (h' := kv_wd g w) rfl ?_
        refine kx_call (z := 17) (as := [.ref 1, .int (nI k)]) (rest := []) (v := some (.ref (14 + k))) (h1 := kv_wd g w) rfl (ev_knotAt (d := 898) (g := g) q k hk8 (by rw [d1]; exact nI_lt hkm (by omega))) ?_
        refine kx_st 0 (pc' := 8) (L' := [some (.ref 0), some (.int (nI k)), some (.int 0), none, none, none]) (st' := [.ref (14 + k)]) (h' := kv_wd g w) rfl ?_
        refine kx_st 2 (pc' := 10) (L' := [some (.ref 0), some (.int (nI k)), some (.int 0), some (.ref (14 + k)), none, none]) (st' := [.ref (14 + k)]) (h' := kv_wd g w) rfl ?_
        refine kx_st 1 (pc' := 13) (L' := [some (.ref 0), some (.int (nI k)), some (.int 0), some (.ref (14 + k)), none, none]) (st' := []) (h' := kv_wd g w) rfl ?_
        refine kx_st 2 (pc' := 15) (L' := [some (.ref 0), some (.int (nI k)), some (.int 0), some (.ref (14 + k)), none, none]) (st' := [.int 1, .int 0]) (h' := kv_wd g w) rfl ?_
        refine kx_call (z := 124) (as := [.int 0, .int 1]) (rest := []) (v := some (.int (kx_b (0 ≤ (0 : Int32) ∧ (0 : Int32) ≤ 1)))) (h1 := kv_wd g w) rfl (ev_within (d := 898) 0 1) ?_
        refine kx_st 0 (pc' := 18) (L' := [some (.ref 0), some (.int (nI k)), some (.int 0), some (.ref (14 + k)), none, none]) (st' := [.int (kx_b (0 ≤ (0 : Int32) ∧ (0 : Int32) ≤ 1))]) (h' := kv_wd g w) rfl ?_
        refine kx_bn (t := 27) rfl rfl (fun (h18 : (0 ≤ (0 : Int32) ∧ (0 : Int32) ≤ 1)) => ?_) (fun (h18 : ¬ (0 ≤ (0 : Int32) ∧ (0 : Int32) ≤ 1)) => ?_)
        · refine kx_st 7 (pc' := 39) (L' := [some (.ref 0), some (.int (nI k)), some (.int 0), some (.ref (14 + k)), some (.int 0), none]) (st' := [.int 0, .ref 1, .ref 43]) (h' := kv_wd g w) rfl ?_
          obtain ⟨g39, e39, q39, r39⟩ := ev_goBehind (E := E) (d := 891) (w := w) hX q0 hq0 0 (by omega)
          have X39 : kx_X F0 F1 s t m K g39 := kx_X_cg (fun b hb => r39 b (by omega) (by omega) (by omega) (by omega)) hX
          have M39 : kx_M F0 F1 s t m K (g39 66) := by rw [r39 66 (by omega) (by omega) (by omega) (by omega)]; exact hM
          have m39 : kx_hmq (g39 66) q0 := by rw [r39 66 (by omega) (by omega) (by omega) (by omega)]; exact hm0
          refine kx_call (z := 60) (as := [.ref 43, .ref 1, .int 0]) (rest := []) (v := none) (h1 := kv_wd g39 w) rfl e39 ?_
          refine kx_st 0 (pc' := 42) (L' := [some (.ref 0), some (.int (nI k)), some (.int 0), some (.ref (14 + k)), some (.int 0), none]) (st' := []) (h' := kv_wd g39 w) rfl ?_
          refine kx_st 2 (pc' := 45) (L' := [some (.ref 0), some (.int (nI k)), some (.int 0), some (.ref (14 + k)), some (.int 0), some (.int 0)]) (st' := []) (h' := kv_wd g39 w) rfl ?_
          refine lp_xodds (d := 890) q0 g hX hb0 hF0 k hkm hK x y hx hy ka kb 0 (fun g36 r36 => ?_) 10 0 g39 (by omega) ⟨q39, fun b b1 b2 b3 b4 b5 => r39 b b1 b3 b4 b5⟩
          rw [hcc]
          refine kx_st 0 (pc' := 94) (L' := [some (.ref 0), some (.int (nI k)), some (.int 0), some (.ref (14 + k)), some (.int (nI cc)), some (.int (nI 10))]) (st' := []) (h' := kv_wd g36 w) rfl ?_
          refine kx_st 2 (pc' := 98) (L' := [some (.ref 0), some (.int (nI k)), some (.int 0), some (.ref (14 + k)), some (.int (nI cc)), some (.int (nI 10))]) (st' := [.int 10, .int (nI cc)]) (h' := kv_wd g36 w) rfl ?_
          refine kx_call (z := 126) (as := [.int (nI cc), .int 10]) (rest := []) (v := some (.int (kx_cd (nI cc) 10 10))) (h1 := kv_wd g36 w) rfl (ev_comDiv (d := 898) (nI cc)) ?_
          refine kx_st 0 (pc' := 101) (L' := [some (.ref 0), some (.int (nI k)), some (.int 0), some (.ref (14 + k)), some (.int (nI cc)), some (.int (nI 10))]) (st' := [.int (kx_cd (nI cc) 10 10)]) (h' := kv_wd g36 w) rfl ?_
          refine kx_st 2 (pc' := 104) (L' := [some (.ref 0), some (.int (nI k)), some (.int 0), some (.ref (14 + k)), some (.int (nI cc)), some (.int (kx_cd (nI cc) 10 10))]) (st' := [.int 0]) (h' := kv_wd g36 w) rfl ?_
          refine kx_st 1 (pc' := 107) (L' := [some (.ref 0), some (.int (nI k)), some (.int 0), some (.ref (14 + k)), some (.int (nI cc)), some (.int (kx_cd (nI cc) 10 10))]) (st' := []) (h' := kv_wd g36 w) rfl ?_
          refine kx_st 3 (pc' := 116) (L' := [some (.ref 0), some (.int (nI k)), some (.int 0), some (.ref (14 + k)), some (.int (nI cc)), some (.int (kx_cd (nI cc) 10 10))]) (st' := [.int (kx_cd (nI cc) 10 10), .int (nI cc)]) (h' := kv_wd g36 w) rfl ?_
          refine kx_dv rfl cdz ?_
          refine kx_ret (v := some (.int ((nI cc) / (kx_cd (nI cc) 10 10)))) rfl ?_
          refine ⟨_, _, _, rfl, rfl, ?_⟩
          refine kx_st 0 (pc' := 0) (L' := [some (.ref 65), some (.int (nI k)), some (.int 0), none, none]) (st' := []) (h' := kv_wd g36 w) rfl ?_
          refine kx_st 2 (pc' := 2) (L' := [some (.ref 65), some (.int (nI k)), some (.int 0), none, none]) (st' := [.int (nI k), .ref 65]) (h' := kv_wd g36 w) rfl ?_
          refine kx_call (z := 139) (as := [.ref 65, .int (nI k)]) (rest := []) (v := some (.int (kx_b (0 ≤ nI k ∧ nI k < nI m)))) (h1 := kv_wd g36 w) rfl (ev_mKnotS (d := 897) (g := g36) (s := m) (by show g36 66 2 = _; rw [(r36.2 66 (by omega) (by omega) (by omega) (by omega) (by omega))]; exact d2) a4 (nI k)) ?_
          refine kx_st 0 (pc' := 5) (L' := [some (.ref 65), some (.int (nI k)), some (.int 0), none, none]) (st' := [.int (kx_b (0 ≤ nI k ∧ nI k < nI m))]) (h' := kv_wd g36 w) rfl ?_
          refine kx_be (t := 17) rfl rfl (fun (m5 : ¬ (0 ≤ nI k ∧ nI k < nI m)) => ?_) (fun (m5 : (0 ≤ nI k ∧ nI k < nI m)) => ?_)
          · exact absurd hv m5
          · refine kx_st 0 (pc' := 8) (L' := [some (.ref 65), some (.int (nI k)), some (.int 0), none, none]) (st' := []) (h' := kv_wd g36 w) rfl ?_
            refine kx_st 3 (pc' := 11) (L' := [some (.ref 65), some (.int (nI k)), some (.int 0), none, none]) (st' := [.int 1, .int 0, .int 0]) (h' := kv_wd g36 w) rfl ?_
            refine kx_call (z := 130) (as := [.int 0, .int 0, .int 1]) (rest := []) (v := some (.int (kx_b (0 ≤ (0 : Int32) ∧ (0 : Int32) ≤ 1)))) (h1 := kv_wd g36 w) rfl (ev_in (d := 898) 0 0 1) ?_
            refine kx_st 0 (pc' := 14) (L' := [some (.ref 65), some (.int (nI k)), some (.int 0), none, none]) (st' := [.int (kx_b (0 ≤ (0 : Int32) ∧ (0 : Int32) ≤ 1))]) (h' := kv_wd g36 w) rfl ?_
            refine kx_bn (t := 24) rfl rfl (fun (m14 : (0 ≤ (0 : Int32) ∧ (0 : Int32) ≤ 1)) => ?_) (fun (m14 : ¬ (0 ≤ (0 : Int32) ∧ (0 : Int32) ≤ 1)) => ?_)
            · refine kx_st 7 (pc' := 35) (L' := [some (.ref 65), some (.int (nI k)), some (.int 0), some (.int 0), none]) (st' := [.ref 68, .ref 66, .ref 65]) (h' := kv_wd g36 w) rfl ?_
              refine kx_call (z := 133) (as := [.ref 65, .ref 66, .ref 68]) (rest := []) (v := none) (h1 := kv_wd (kv_uf g36 68 (kx_mv (g36 66) (g36 68) 268)) w) rfl (ev_moveAll (d := 898) (a := 66) (b := 68) rfl rfl (by decide) (by decide) (by decide)) ?_
              refine kx_st 0 (pc' := 38) (L' := [some (.ref 65), some (.int (nI k)), some (.int 0), some (.int 0), none]) (st' := []) (h' := kv_wd (kv_uf g36 68 (kx_mv (g36 66) (g36 68) 268)) w) rfl ?_
              refine kx_st 2 (pc' := 41) (L' := [some (.ref 65), some (.int (nI k)), some (.int 0), some (.int 0), some (.int 0)]) (st' := []) (h' := kv_wd (kv_uf g36 68 (kx_mv (g36 66) (g36 68) 268)) w) rfl ?_
              have M36 : kx_M F0 F1 s t m K (g36 66) := by rw [(r36.2 66 (by omega) (by omega) (by omega) (by omega) (by omega))]; exact hM
              have m36 : kx_hmq (g36 66) q0 := by rw [(r36.2 66 (by omega) (by omega) (by omega) (by omega) (by omega))]; exact hm0
              refine lp_modds (d := 797) q0 (kv_uf g36 68 (kx_mv (g36 66) (g36 68) 268)) M36 hb0 hF0 k hkm hK x y hx hy ka kb 0 (fun g31 r31 => ?_) 10 0 (kv_uf g36 68 (kx_mv (g36 66) (g36 68) 268)) (by omega) ⟨m36, fun _ _ _ => rfl, fun _ _ _ => rfl, fun _ _ => rfl⟩
              rw [hcc]
              refine kx_st 0 (pc' := 74) (L' := [some (.ref 65), some (.int (nI k)), some (.int 0), some (.int (nI cc)), some (.int (nI 10))]) (st' := []) (h' := kv_wd g31 w) rfl ?_
              refine kx_st 5 (pc' := 83) (L' := [some (.ref 65), some (.int (nI k)), some (.int 0), some (.int (nI cc)), some (.int (nI 10))]) (st' := [.ref 66, .ref 68, .ref 65]) (h' := kv_wd g31 w) rfl ?_
              refine kx_call (z := 133) (as := [.ref 65, .ref 68, .ref 66]) (rest := []) (v := none) (h1 := kv_wd (kv_uf g31 66 (kx_mv (g31 68) (g31 66) 268)) w) rfl (ev_moveAll (d := 898) (a := 68) (b := 66) rfl rfl (by decide) (by decide) (by decide)) ?_
              refine kx_st 0 (pc' := 86) (L' := [some (.ref 65), some (.int (nI k)), some (.int 0), some (.int (nI cc)), some (.int (nI 10))]) (st' := []) (h' := kv_wd (kv_uf g31 66 (kx_mv (g31 68) (g31 66) 268)) w) rfl ?_
              refine kx_st 2 (pc' := 89) (L' := [some (.ref 65), some (.int (nI k)), some (.int 0), some (.int (nI cc)), some (.int (nI 10))]) (st' := [.int 10, .int (nI cc)]) (h' := kv_wd (kv_uf g31 66 (kx_mv (g31 68) (g31 66) 268)) w) rfl ?_
              refine kx_call (z := 198) (as := [.int (nI cc), .int 10]) (rest := []) (v := some (.int (kx_cd (nI cc) 10 10))) (h1 := kv_wd (kv_uf g31 66 (kx_mv (g31 68) (g31 66) 268)) w) rfl (ev_divisor (d := 898) cc (by omega)) ?_
              refine kx_st 0 (pc' := 92) (L' := [some (.ref 65), some (.int (nI k)), some (.int 0), some (.int (nI cc)), some (.int (nI 10))]) (st' := [.int (kx_cd (nI cc) 10 10)]) (h' := kv_wd (kv_uf g31 66 (kx_mv (g31 68) (g31 66) 268)) w) rfl ?_
              refine kx_st 2 (pc' := 95) (L' := [some (.ref 65), some (.int (nI k)), some (.int 0), some (.int (nI cc)), some (.int (kx_cd (nI cc) 10 10))]) (st' := [.int 0]) (h' := kv_wd (kv_uf g31 66 (kx_mv (g31 68) (g31 66) 268)) w) rfl ?_
              refine kx_st 1 (pc' := 98) (L' := [some (.ref 65), some (.int (nI k)), some (.int 0), some (.int (nI cc)), some (.int (kx_cd (nI cc) 10 10))]) (st' := []) (h' := kv_wd (kv_uf g31 66 (kx_mv (g31 68) (g31 66) 268)) w) rfl ?_
              refine kx_st 2 (pc' := 101) (L' := [some (.ref 65), some (.int (nI k)), some (.int 0), some (.int (nI cc)), some (.int (kx_cd (nI cc) 10 10))]) (st' := [.int (kx_cd (nI cc) 10 10), .int (nI cc)]) (h' := kv_wd (kv_uf g31 66 (kx_mv (g31 68) (g31 66) 268)) w) rfl ?_
              refine kx_dv rfl cdz ?_
              refine kx_st 1 (pc' := 110) (L' := [some (.ref 65), some (.int (nI k)), some (.int 0), some (.int (nI cc)), some (.int (kx_cd (nI cc) 10 10))]) (st' := [.int ((nI cc) / (kx_cd (nI cc) 10 10))]) (h' := kv_wd (kv_uf g31 66 (kx_mv (g31 68) (g31 66) 268)) w) rfl ?_
              refine kx_ret (v := some (.int ((nI cc) / (kx_cd (nI cc) 10 10)))) rfl ?_
              exact ⟨rfl, _, _, rfl, kx_Rl_skip _ _ _ _ (kx_Rl_ro hR rfl (fun b h8 h11 h4 h65 h66 h68 h69 => (by rw [kv_uf_ne h66]; exact (r31.2.2.1 b h65 h66).trans (by rw [kv_uf_ne h68]; exact r36.2 b h8 h11 (by omega) (by omega) (by omega)))) (fun z hz => (r31.2.2.2 z hz).trans (congrFun (r36.2 65 (by omega) (by omega) (by omega) (by omega) (by omega)) z)) (fun j hj => (kx_tm_end (g := g36) r31.2.2.1 j hj).trans (congrFun (r36.2 66 (by omega) (by omega) (by omega) (by omega) (by omega)) j)))⟩
            · exact absurd hc m14
        · exact absurd hc h18
      · refine kx_two (by decide) (Nat.le_of_ble_eq_true rfl) (by decide) (Nat.le_of_ble_eq_true rfl) ?_
        refine kx_st 0 (pc' := 0) (L' := [some (.ref 0), some (.int (nI k)), some (.int 1), none, none, none]) (st' := []) (h' := kv_wd g w) rfl ?_
        refine kx_st 3 (pc' := 5) (L' := [some (.ref 0), some (.int (nI k)), some (.int 1), none, none, none]) (st' := [.int (nI k), .ref 1]) (h' := kv_wd g w) rfl ?_
        refine kx_call (z := 17) (as := [.ref 1, .int (nI k)]) (rest := []) (v := some (.ref (14 + k))) (h1 := kv_wd g w) rfl (ev_knotAt (d := 898) (g := g) q k hk8 (by rw [d1]; exact nI_lt hkm (by omega))) ?_
        refine kx_st 0 (pc' := 8) (L' := [some (.ref 0), some (.int (nI k)), some (.int 1), none, none, none]) (st' := [.ref (14 + k)]) (h' := kv_wd g w) rfl ?_
        refine kx_st 2 (pc' := 10) (L' := [some (.ref 0), some (.int (nI k)), some (.int 1), some (.ref (14 + k)), none, none]) (st' := [.ref (14 + k)]) (h' := kv_wd g w) rfl ?_
        refine kx_st 1 (pc' := 13) (L' := [some (.ref 0), some (.int (nI k)), some (.int 1), some (.ref (14 + k)), none, none]) (st' := []) (h' := kv_wd g w) rfl ?_
        refine kx_st 2 (pc' := 15) (L' := [some (.ref 0), some (.int (nI k)), some (.int 1), some (.ref (14 + k)), none, none]) (st' := [.int 1, .int 1]) (h' := kv_wd g w) rfl ?_
        refine kx_call (z := 124) (as := [.int 1, .int 1]) (rest := []) (v := some (.int (kx_b (0 ≤ (1 : Int32) ∧ (1 : Int32) ≤ 1)))) (h1 := kv_wd g w) rfl (ev_within (d := 898) 1 1) ?_
        refine kx_st 0 (pc' := 18) (L' := [some (.ref 0), some (.int (nI k)), some (.int 1), some (.ref (14 + k)), none, none]) (st' := [.int (kx_b (0 ≤ (1 : Int32) ∧ (1 : Int32) ≤ 1))]) (h' := kv_wd g w) rfl ?_
        refine kx_bn (t := 27) rfl rfl (fun (h18 : (0 ≤ (1 : Int32) ∧ (1 : Int32) ≤ 1)) => ?_) (fun (h18 : ¬ (0 ≤ (1 : Int32) ∧ (1 : Int32) ≤ 1)) => ?_)
        · refine kx_st 7 (pc' := 39) (L' := [some (.ref 0), some (.int (nI k)), some (.int 1), some (.ref (14 + k)), some (.int 0), none]) (st' := [.int 0, .ref 1, .ref 43]) (h' := kv_wd g w) rfl ?_
          obtain ⟨g39, e39, q39, r39⟩ := ev_goBehind (E := E) (d := 891) (w := w) hX q0 hq0 0 (by omega)
          have X39 : kx_X F0 F1 s t m K g39 := kx_X_cg (fun b hb => r39 b (by omega) (by omega) (by omega) (by omega)) hX
          have M39 : kx_M F0 F1 s t m K (g39 66) := by rw [r39 66 (by omega) (by omega) (by omega) (by omega)]; exact hM
          have m39 : kx_hmq (g39 66) q0 := by rw [r39 66 (by omega) (by omega) (by omega) (by omega)]; exact hm0
          refine kx_call (z := 60) (as := [.ref 43, .ref 1, .int 0]) (rest := []) (v := none) (h1 := kv_wd g39 w) rfl e39 ?_
          refine kx_st 0 (pc' := 42) (L' := [some (.ref 0), some (.int (nI k)), some (.int 1), some (.ref (14 + k)), some (.int 0), none]) (st' := []) (h' := kv_wd g39 w) rfl ?_
          refine kx_st 2 (pc' := 45) (L' := [some (.ref 0), some (.int (nI k)), some (.int 1), some (.ref (14 + k)), some (.int 0), some (.int 0)]) (st' := []) (h' := kv_wd g39 w) rfl ?_
          refine lp_xodds (d := 890) q0 g hX hb0 hF0 k hkm hK x y hx hy ka kb 1 (fun g36 r36 => ?_) 10 0 g39 (by omega) ⟨q39, fun b b1 b2 b3 b4 b5 => r39 b b1 b3 b4 b5⟩
          rw [hcc]
          refine kx_st 0 (pc' := 94) (L' := [some (.ref 0), some (.int (nI k)), some (.int 1), some (.ref (14 + k)), some (.int (nI cc)), some (.int (nI 10))]) (st' := []) (h' := kv_wd g36 w) rfl ?_
          refine kx_st 2 (pc' := 98) (L' := [some (.ref 0), some (.int (nI k)), some (.int 1), some (.ref (14 + k)), some (.int (nI cc)), some (.int (nI 10))]) (st' := [.int 10, .int (nI cc)]) (h' := kv_wd g36 w) rfl ?_
          refine kx_call (z := 126) (as := [.int (nI cc), .int 10]) (rest := []) (v := some (.int (kx_cd (nI cc) 10 10))) (h1 := kv_wd g36 w) rfl (ev_comDiv (d := 898) (nI cc)) ?_
          refine kx_st 0 (pc' := 101) (L' := [some (.ref 0), some (.int (nI k)), some (.int 1), some (.ref (14 + k)), some (.int (nI cc)), some (.int (nI 10))]) (st' := [.int (kx_cd (nI cc) 10 10)]) (h' := kv_wd g36 w) rfl ?_
          refine kx_st 2 (pc' := 104) (L' := [some (.ref 0), some (.int (nI k)), some (.int 1), some (.ref (14 + k)), some (.int (nI cc)), some (.int (kx_cd (nI cc) 10 10))]) (st' := [.int 1]) (h' := kv_wd g36 w) rfl ?_
          refine kx_st 1 (pc' := 112) (L' := [some (.ref 0), some (.int (nI k)), some (.int 1), some (.ref (14 + k)), some (.int (nI cc)), some (.int (kx_cd (nI cc) 10 10))]) (st' := []) (h' := kv_wd g36 w) rfl ?_
          refine kx_st 2 (pc' := 116) (L' := [some (.ref 0), some (.int (nI k)), some (.int 1), some (.ref (14 + k)), some (.int (nI cc)), some (.int (kx_cd (nI cc) 10 10))]) (st' := [.int (kx_cd (nI cc) 10 10), .int 10]) (h' := kv_wd g36 w) rfl ?_
          refine kx_dv rfl cdz ?_
          refine kx_ret (v := some (.int (10 / (kx_cd (nI cc) 10 10)))) rfl ?_
          refine ⟨_, _, _, rfl, rfl, ?_⟩
          refine kx_st 0 (pc' := 0) (L' := [some (.ref 65), some (.int (nI k)), some (.int 1), none, none]) (st' := []) (h' := kv_wd g36 w) rfl ?_
          refine kx_st 2 (pc' := 2) (L' := [some (.ref 65), some (.int (nI k)), some (.int 1), none, none]) (st' := [.int (nI k), .ref 65]) (h' := kv_wd g36 w) rfl ?_
          refine kx_call (z := 139) (as := [.ref 65, .int (nI k)]) (rest := []) (v := some (.int (kx_b (0 ≤ nI k ∧ nI k < nI m)))) (h1 := kv_wd g36 w) rfl (ev_mKnotS (d := 897) (g := g36) (s := m) (by show g36 66 2 = _; rw [(r36.2 66 (by omega) (by omega) (by omega) (by omega) (by omega))]; exact d2) a4 (nI k)) ?_
          refine kx_st 0 (pc' := 5) (L' := [some (.ref 65), some (.int (nI k)), some (.int 1), none, none]) (st' := [.int (kx_b (0 ≤ nI k ∧ nI k < nI m))]) (h' := kv_wd g36 w) rfl ?_
          refine kx_be (t := 17) rfl rfl (fun (m5 : ¬ (0 ≤ nI k ∧ nI k < nI m)) => ?_) (fun (m5 : (0 ≤ nI k ∧ nI k < nI m)) => ?_)
          · exact absurd hv m5
          · refine kx_st 0 (pc' := 8) (L' := [some (.ref 65), some (.int (nI k)), some (.int 1), none, none]) (st' := []) (h' := kv_wd g36 w) rfl ?_
            refine kx_st 3 (pc' := 11) (L' := [some (.ref 65), some (.int (nI k)), some (.int 1), none, none]) (st' := [.int 1, .int 0, .int 1]) (h' := kv_wd g36 w) rfl ?_
            refine kx_call (z := 130) (as := [.int 1, .int 0, .int 1]) (rest := []) (v := some (.int (kx_b (0 ≤ (1 : Int32) ∧ (1 : Int32) ≤ 1)))) (h1 := kv_wd g36 w) rfl (ev_in (d := 898) 1 0 1) ?_
            refine kx_st 0 (pc' := 14) (L' := [some (.ref 65), some (.int (nI k)), some (.int 1), none, none]) (st' := [.int (kx_b (0 ≤ (1 : Int32) ∧ (1 : Int32) ≤ 1))]) (h' := kv_wd g36 w) rfl ?_
            refine kx_bn (t := 24) rfl rfl (fun (m14 : (0 ≤ (1 : Int32) ∧ (1 : Int32) ≤ 1)) => ?_) (fun (m14 : ¬ (0 ≤ (1 : Int32) ∧ (1 : Int32) ≤ 1)) => ?_)
            · refine kx_st 7 (pc' := 35) (L' := [some (.ref 65), some (.int (nI k)), some (.int 1), some (.int 0), none]) (st' := [.ref 68, .ref 66, .ref 65]) (h' := kv_wd g36 w) rfl ?_
              refine kx_call (z := 133) (as := [.ref 65, .ref 66, .ref 68]) (rest := []) (v := none) (h1 := kv_wd (kv_uf g36 68 (kx_mv (g36 66) (g36 68) 268)) w) rfl (ev_moveAll (d := 898) (a := 66) (b := 68) rfl rfl (by decide) (by decide) (by decide)) ?_
              refine kx_st 0 (pc' := 38) (L' := [some (.ref 65), some (.int (nI k)), some (.int 1), some (.int 0), none]) (st' := []) (h' := kv_wd (kv_uf g36 68 (kx_mv (g36 66) (g36 68) 268)) w) rfl ?_
              refine kx_st 2 (pc' := 41) (L' := [some (.ref 65), some (.int (nI k)), some (.int 1), some (.int 0), some (.int 0)]) (st' := []) (h' := kv_wd (kv_uf g36 68 (kx_mv (g36 66) (g36 68) 268)) w) rfl ?_
              have M36 : kx_M F0 F1 s t m K (g36 66) := by rw [(r36.2 66 (by omega) (by omega) (by omega) (by omega) (by omega))]; exact hM
              have m36 : kx_hmq (g36 66) q0 := by rw [(r36.2 66 (by omega) (by omega) (by omega) (by omega) (by omega))]; exact hm0
              refine lp_modds (d := 797) q0 (kv_uf g36 68 (kx_mv (g36 66) (g36 68) 268)) M36 hb0 hF0 k hkm hK x y hx hy ka kb 1 (fun g31 r31 => ?_) 10 0 (kv_uf g36 68 (kx_mv (g36 66) (g36 68) 268)) (by omega) ⟨m36, fun _ _ _ => rfl, fun _ _ _ => rfl, fun _ _ => rfl⟩
              rw [hcc]
              refine kx_st 0 (pc' := 74) (L' := [some (.ref 65), some (.int (nI k)), some (.int 1), some (.int (nI cc)), some (.int (nI 10))]) (st' := []) (h' := kv_wd g31 w) rfl ?_
              refine kx_st 5 (pc' := 83) (L' := [some (.ref 65), some (.int (nI k)), some (.int 1), some (.int (nI cc)), some (.int (nI 10))]) (st' := [.ref 66, .ref 68, .ref 65]) (h' := kv_wd g31 w) rfl ?_
              refine kx_call (z := 133) (as := [.ref 65, .ref 68, .ref 66]) (rest := []) (v := none) (h1 := kv_wd (kv_uf g31 66 (kx_mv (g31 68) (g31 66) 268)) w) rfl (ev_moveAll (d := 898) (a := 68) (b := 66) rfl rfl (by decide) (by decide) (by decide)) ?_
              refine kx_st 0 (pc' := 86) (L' := [some (.ref 65), some (.int (nI k)), some (.int 1), some (.int (nI cc)), some (.int (nI 10))]) (st' := []) (h' := kv_wd (kv_uf g31 66 (kx_mv (g31 68) (g31 66) 268)) w) rfl ?_
              refine kx_st 2 (pc' := 89) (L' := [some (.ref 65), some (.int (nI k)), some (.int 1), some (.int (nI cc)), some (.int (nI 10))]) (st' := [.int 10, .int (nI cc)]) (h' := kv_wd (kv_uf g31 66 (kx_mv (g31 68) (g31 66) 268)) w) rfl ?_
              refine kx_call (z := 198) (as := [.int (nI cc), .int 10]) (rest := []) (v := some (.int (kx_cd (nI cc) 10 10))) (h1 := kv_wd (kv_uf g31 66 (kx_mv (g31 68) (g31 66) 268)) w) rfl (ev_divisor (d := 898) cc (by omega)) ?_
              refine kx_st 0 (pc' := 92) (L' := [some (.ref 65), some (.int (nI k)), some (.int 1), some (.int (nI cc)), some (.int (nI 10))]) (st' := [.int (kx_cd (nI cc) 10 10)]) (h' := kv_wd (kv_uf g31 66 (kx_mv (g31 68) (g31 66) 268)) w) rfl ?_
              refine kx_st 2 (pc' := 95) (L' := [some (.ref 65), some (.int (nI k)), some (.int 1), some (.int (nI cc)), some (.int (kx_cd (nI cc) 10 10))]) (st' := [.int 1]) (h' := kv_wd (kv_uf g31 66 (kx_mv (g31 68) (g31 66) 268)) w) rfl ?_
              refine kx_st 1 (pc' := 105) (L' := [some (.ref 65), some (.int (nI k)), some (.int 1), some (.int (nI cc)), some (.int (kx_cd (nI cc) 10 10))]) (st' := []) (h' := kv_wd (kv_uf g31 66 (kx_mv (g31 68) (g31 66) 268)) w) rfl ?_
              refine kx_st 2 (pc' := 109) (L' := [some (.ref 65), some (.int (nI k)), some (.int 1), some (.int (nI cc)), some (.int (kx_cd (nI cc) 10 10))]) (st' := [.int (kx_cd (nI cc) 10 10), .int 10]) (h' := kv_wd (kv_uf g31 66 (kx_mv (g31 68) (g31 66) 268)) w) rfl ?_
              refine kx_dv rfl cdz ?_
              refine kx_ret (v := some (.int (10 / (kx_cd (nI cc) 10 10)))) rfl ?_
              exact ⟨rfl, _, _, rfl, kx_Rl_skip _ _ _ _ (kx_Rl_ro hR rfl (fun b h8 h11 h4 h65 h66 h68 h69 => (by rw [kv_uf_ne h66]; exact (r31.2.2.1 b h65 h66).trans (by rw [kv_uf_ne h68]; exact r36.2 b h8 h11 (by omega) (by omega) (by omega)))) (fun z hz => (r31.2.2.2 z hz).trans (congrFun (r36.2 65 (by omega) (by omega) (by omega) (by omega) (by omega)) z)) (fun j hj => (kx_tm_end (g := g36) r31.2.2.1 j hj).trans (congrFun (r36.2 66 (by omega) (by omega) (by omega) (by omega) (by omega)) j)))⟩
            · exact absurd hc m14
        · exact absurd hc h18
    · refine kx_two (by decide) (Nat.le_of_ble_eq_true rfl) (by decide) (Nat.le_of_ble_eq_true rfl) ?_
      refine kx_st 0 (pc' := 0) (L' := [some (.ref 0), some (.int (nI k)), some (.int b), none, none, none]) (st' := []) (h' := kv_wd g w) rfl ?_
      refine kx_st 3 (pc' := 5) (L' := [some (.ref 0), some (.int (nI k)), some (.int b), none, none, none]) (st' := [.int (nI k), .ref 1]) (h' := kv_wd g w) rfl ?_
      refine kx_call (z := 17) (as := [.ref 1, .int (nI k)]) (rest := []) (v := some (.ref (14 + k))) (h1 := kv_wd g w) rfl (ev_knotAt (d := 898) (g := g) q k hk8 (by rw [d1]; exact nI_lt hkm (by omega))) ?_
      refine kx_st 0 (pc' := 8) (L' := [some (.ref 0), some (.int (nI k)), some (.int b), none, none, none]) (st' := [.ref (14 + k)]) (h' := kv_wd g w) rfl ?_
      refine kx_st 2 (pc' := 10) (L' := [some (.ref 0), some (.int (nI k)), some (.int b), some (.ref (14 + k)), none, none]) (st' := [.ref (14 + k)]) (h' := kv_wd g w) rfl ?_
      refine kx_st 1 (pc' := 13) (L' := [some (.ref 0), some (.int (nI k)), some (.int b), some (.ref (14 + k)), none, none]) (st' := []) (h' := kv_wd g w) rfl ?_
      refine kx_st 2 (pc' := 15) (L' := [some (.ref 0), some (.int (nI k)), some (.int b), some (.ref (14 + k)), none, none]) (st' := [.int 1, .int b]) (h' := kv_wd g w) rfl ?_
      refine kx_call (z := 124) (as := [.int b, .int 1]) (rest := []) (v := some (.int (kx_b (0 ≤ b ∧ b ≤ 1)))) (h1 := kv_wd g w) rfl (ev_within (d := 898) b 1) ?_
      refine kx_st 0 (pc' := 18) (L' := [some (.ref 0), some (.int (nI k)), some (.int b), some (.ref (14 + k)), none, none]) (st' := [.int (kx_b (0 ≤ b ∧ b ≤ 1))]) (h' := kv_wd g w) rfl ?_
      refine kx_bn (t := 27) rfl rfl (fun (h18 : (0 ≤ b ∧ b ≤ 1)) => ?_) (fun (h18 : ¬ (0 ≤ b ∧ b ≤ 1)) => ?_)
      · exact absurd h18 hc
      · refine kx_st 0 (pc' := 21) (L' := [some (.ref 0), some (.int (nI k)), some (.int b), some (.ref (14 + k)), none, none]) (st' := []) (h' := kv_wd g w) rfl ?_
        refine kx_st 2 (pc' := 23) (L' := [some (.ref 0), some (.int (nI k)), some (.int b), some (.ref (14 + k)), none, none]) (st' := [.int 1, .ref 0]) (h' := kv_wd g w) rfl ?_
        refine kx_call (z := 123) (as := [.ref 0, .int 1]) (rest := []) (v := some (.int (-1000000000 - nI 1))) (h1 := kv_wd (kv_up g 64 1 (g 64 1 + 1)) w) rfl (ev_error (d := 898) 1 (by decide) (by decide)) ?_
        refine kx_st 0 (pc' := 26) (L' := [some (.ref 0), some (.int (nI k)), some (.int b), some (.ref (14 + k)), none, none]) (st' := [.int (-1000000000 - nI 1)]) (h' := kv_wd (kv_up g 64 1 (g 64 1 + 1)) w) rfl ?_
        refine kx_ret (v := some (.int (-1000000000 - nI 1))) rfl ?_
        refine ⟨_, _, _, rfl, rfl, ?_⟩
        refine kx_st 0 (pc' := 0) (L' := [some (.ref 65), some (.int (nI k)), some (.int b), none, none]) (st' := []) (h' := kv_wd (kv_up g 64 1 (g 64 1 + 1)) w) rfl ?_
        refine kx_st 2 (pc' := 2) (L' := [some (.ref 65), some (.int (nI k)), some (.int b), none, none]) (st' := [.int (nI k), .ref 65]) (h' := kv_wd (kv_up g 64 1 (g 64 1 + 1)) w) rfl ?_
        refine kx_call (z := 139) (as := [.ref 65, .int (nI k)]) (rest := []) (v := some (.int (kx_b (0 ≤ nI k ∧ nI k < nI m)))) (h1 := kv_wd (kv_up g 64 1 (g 64 1 + 1)) w) rfl (ev_mKnotS (d := 897) (g := kv_up g 64 1 (g 64 1 + 1)) (s := m) (by first | exact d2 | (rw [kv_up_ne (by omega)]; exact d2)) a4 (nI k)) ?_
        refine kx_st 0 (pc' := 5) (L' := [some (.ref 65), some (.int (nI k)), some (.int b), none, none]) (st' := [.int (kx_b (0 ≤ nI k ∧ nI k < nI m))]) (h' := kv_wd (kv_up g 64 1 (g 64 1 + 1)) w) rfl ?_
        refine kx_be (t := 17) rfl rfl (fun (m5 : ¬ (0 ≤ nI k ∧ nI k < nI m)) => ?_) (fun (m5 : (0 ≤ nI k ∧ nI k < nI m)) => ?_)
        · exact absurd hv m5
        · refine kx_st 0 (pc' := 8) (L' := [some (.ref 65), some (.int (nI k)), some (.int b), none, none]) (st' := []) (h' := kv_wd (kv_up g 64 1 (g 64 1 + 1)) w) rfl ?_
          refine kx_st 3 (pc' := 11) (L' := [some (.ref 65), some (.int (nI k)), some (.int b), none, none]) (st' := [.int 1, .int 0, .int b]) (h' := kv_wd (kv_up g 64 1 (g 64 1 + 1)) w) rfl ?_
          refine kx_call (z := 130) (as := [.int b, .int 0, .int 1]) (rest := []) (v := some (.int (kx_b (0 ≤ b ∧ b ≤ 1)))) (h1 := kv_wd (kv_up g 64 1 (g 64 1 + 1)) w) rfl (ev_in (d := 898) b 0 1) ?_
          refine kx_st 0 (pc' := 14) (L' := [some (.ref 65), some (.int (nI k)), some (.int b), none, none]) (st' := [.int (kx_b (0 ≤ b ∧ b ≤ 1))]) (h' := kv_wd (kv_up g 64 1 (g 64 1 + 1)) w) rfl ?_
          refine kx_bn (t := 24) rfl rfl (fun (m14 : (0 ≤ b ∧ b ≤ 1)) => ?_) (fun (m14 : ¬ (0 ≤ b ∧ b ≤ 1)) => ?_)
          · exact absurd m14 hc
          · refine kx_st 0 (pc' := 17) (L' := [some (.ref 65), some (.int (nI k)), some (.int b), none, none]) (st' := []) (h' := kv_wd (kv_up g 64 1 (g 64 1 + 1)) w) rfl ?_
            refine kx_st 2 (pc' := 20) (L' := [some (.ref 65), some (.int (nI k)), some (.int b), none, none]) (st' := [.int (-1000000001), .ref 65]) (h' := kv_wd (kv_up g 64 1 (g 64 1 + 1)) w) rfl ?_
            refine kx_call (z := 131) (as := [.ref 65, .int (-1000000001)]) (rest := []) (v := some (.int (-1000000001))) (h1 := kv_wd (kv_up (kv_up g 64 1 (g 64 1 + 1)) 70 1 ((kv_up g 64 1 (g 64 1 + 1)) 70 1 + 1)) w) rfl (ev_errs (d := 898) (-1000000001) 1 (by decide) (by decide)) ?_
            refine kx_st 0 (pc' := 23) (L' := [some (.ref 65), some (.int (nI k)), some (.int b), none, none]) (st' := [.int (-1000000001)]) (h' := kv_wd (kv_up (kv_up g 64 1 (g 64 1 + 1)) 70 1 ((kv_up g 64 1 (g 64 1 + 1)) 70 1 + 1)) w) rfl ?_
            refine kx_ret (v := some (.int (-1000000001))) rfl ?_
            exact ⟨rfl, _, _, rfl, kx_Rl_e hR⟩
  · refine kx_two (by decide) (Nat.le_of_ble_eq_true rfl) (by decide) (Nat.le_of_ble_eq_true rfl) ?_
    refine kx_st 0 (pc' := 0) (L' := [some (.ref 0), some (.int a), some (.int b), none, none, none]) (st' := []) (h' := kv_wd g w) rfl ?_
    refine kx_st 3 (pc' := 5) (L' := [some (.ref 0), some (.int a), some (.int b), none, none, none]) (st' := [.int a, .ref 1]) (h' := kv_wd g w) rfl ?_
    refine kx_call (z := 17) (as := [.ref 1, .int a]) (rest := []) (v := some (.null)) (h1 := kv_wd g w) rfl (ev_knotAt_n (d := 898) (g := g) a (by rw [d1]; exact hv)) ?_
    refine kx_st 0 (pc' := 8) (L' := [some (.ref 0), some (.int a), some (.int b), none, none, none]) (st' := [.null]) (h' := kv_wd g w) rfl ?_
    refine kx_st 2 (pc' := 10) (L' := [some (.ref 0), some (.int a), some (.int b), some (.null), none, none]) (st' := [.null]) (h' := kv_wd g w) rfl ?_
    refine kx_st 1 (pc' := 21) (L' := [some (.ref 0), some (.int a), some (.int b), some (.null), none, none]) (st' := []) (h' := kv_wd g w) rfl ?_
    refine kx_st 2 (pc' := 23) (L' := [some (.ref 0), some (.int a), some (.int b), some (.null), none, none]) (st' := [.int 1, .ref 0]) (h' := kv_wd g w) rfl ?_
    refine kx_call (z := 123) (as := [.ref 0, .int 1]) (rest := []) (v := some (.int (-1000000000 - nI 1))) (h1 := kv_wd (kv_up g 64 1 (g 64 1 + 1)) w) rfl (ev_error (d := 898) 1 (by decide) (by decide)) ?_
    refine kx_st 0 (pc' := 26) (L' := [some (.ref 0), some (.int a), some (.int b), some (.null), none, none]) (st' := [.int (-1000000000 - nI 1)]) (h' := kv_wd (kv_up g 64 1 (g 64 1 + 1)) w) rfl ?_
    refine kx_ret (v := some (.int (-1000000000 - nI 1))) rfl ?_
    refine ⟨_, _, _, rfl, rfl, ?_⟩
    refine kx_st 0 (pc' := 0) (L' := [some (.ref 65), some (.int a), some (.int b), none, none]) (st' := []) (h' := kv_wd (kv_up g 64 1 (g 64 1 + 1)) w) rfl ?_
    refine kx_st 2 (pc' := 2) (L' := [some (.ref 65), some (.int a), some (.int b), none, none]) (st' := [.int a, .ref 65]) (h' := kv_wd (kv_up g 64 1 (g 64 1 + 1)) w) rfl ?_
    refine kx_call (z := 139) (as := [.ref 65, .int a]) (rest := []) (v := some (.int (kx_b (0 ≤ a ∧ a < nI m)))) (h1 := kv_wd (kv_up g 64 1 (g 64 1 + 1)) w) rfl (ev_mKnotS (d := 897) (g := kv_up g 64 1 (g 64 1 + 1)) (s := m) (by first | exact d2 | (rw [kv_up_ne (by omega)]; exact d2)) a4 a) ?_
    refine kx_st 0 (pc' := 5) (L' := [some (.ref 65), some (.int a), some (.int b), none, none]) (st' := [.int (kx_b (0 ≤ a ∧ a < nI m))]) (h' := kv_wd (kv_up g 64 1 (g 64 1 + 1)) w) rfl ?_
    refine kx_be (t := 17) rfl rfl (fun (m5 : ¬ (0 ≤ a ∧ a < nI m)) => ?_) (fun (m5 : (0 ≤ a ∧ a < nI m)) => ?_)
    · refine kx_st 2 (pc' := 20) (L' := [some (.ref 65), some (.int a), some (.int b), none, none]) (st' := [.int (-1000000001), .ref 65]) (h' := kv_wd (kv_up g 64 1 (g 64 1 + 1)) w) rfl ?_
      refine kx_call (z := 131) (as := [.ref 65, .int (-1000000001)]) (rest := []) (v := some (.int (-1000000001))) (h1 := kv_wd (kv_up (kv_up g 64 1 (g 64 1 + 1)) 70 1 ((kv_up g 64 1 (g 64 1 + 1)) 70 1 + 1)) w) rfl (ev_errs (d := 898) (-1000000001) 1 (by decide) (by decide)) ?_
      refine kx_st 0 (pc' := 23) (L' := [some (.ref 65), some (.int a), some (.int b), none, none]) (st' := [.int (-1000000001)]) (h' := kv_wd (kv_up (kv_up g 64 1 (g 64 1 + 1)) 70 1 ((kv_up g 64 1 (g 64 1 + 1)) 70 1 + 1)) w) rfl ?_
      refine kx_ret (v := some (.int (-1000000001))) rfl ?_
      exact ⟨rfl, _, _, rfl, kx_Rl_e hR⟩
    · exact absurd m5 hv
