/-! PAIRS: image, restore, feed -/
theorem kx_H1_cp {h1 h1' r r' : Nat → Int32} {kn kn' : Nat → Nat → Int32} {m : Nat} (e0 : h1' 0 = h1 0) (e1 : h1' 1 = h1 1) (e4 : h1' 4 = h1 4) (er : ∀ j, (2 ≤ j ∧ j ≤ 3) ∨ (20 ≤ j ∧ j < 98) → r' j = r j) (hm : r 2 = nI m) (m8 : m ≤ 8) (ek : ∀ k c, k < m → c < 9 → kn' k c = kn k c) (h : kx_H1 h1 r kn) : kx_H1 h1' r' kn' := by
  obtain ⟨s, t, m', ⟨a1, a2, a3, a4⟩, ⟨b1, b2⟩, ⟨c1, c2⟩, ⟨d1, d2⟩, hk⟩ := h
  have em : m' = m := kx_nI_inj (by omega) (by omega) (d2.symm.trans hm)
  subst em
  exact ⟨s, t, m', ⟨a1, a2, a3, a4⟩, ⟨e0.trans b1, (er 3 (by omega)).trans b2⟩, ⟨e1.trans c1, fun p hp => (er _ (by omega)).trans (c2 p hp)⟩, ⟨e4.trans d1, (er 2 (by omega)).trans d2⟩, fun k hkm => kx_K_cg (fun c hc => ek k c hkm hc) (fun c hc => er _ (by omega)) (hk k hkm)⟩
theorem kx_H_cp {h1 h1' hd hd' lf lf' rt rt' l0 l0' s0 s0' l1 l1' s1 s1' tp tp' wt wt' r r' : Nat → Int32} {kn kn' : Nat → Nat → Int32} {m : Nat} (hm : r 2 = nI m) (m8 : m ≤ 8) (e1 : ∀ k, k = 0 ∨ k = 1 ∨ k = 4 ∨ k = 8 ∨ k = 10 ∨ k = 11 → h1' k = h1 k) (e2 : hd' 2 = hd 2) (e3 : ∀ k, k < 6 → lf' k = lf k) (e4 : ∀ k, k < 6 → rt' k = rt k) (ek : ∀ k c, k < m → c < 9 → kn' k c = kn k c) (e6 : l0' 2 = l0 2) (e7 : ∀ k, k < 50 → s0' k = s0 k) (e9 : l1' 2 = l1 2) (e10 : ∀ k, k < 50 → s1' k = s1 k) (e12 : ∀ k, k < 50 → tp' k = tp k) (e13 : ∀ k, k < 20 → wt' k = wt k) (er : ∀ j, j < 268 → r' j = r j) (h : kx_H kx_L h1 hd lf rt kn l0 s0 l1 s1 tp wt r) : kx_H kx_L h1' hd' lf' rt' kn' l0' s0' l1' s1' tp' wt' r' := by
  obtain ⟨H1, H2, H3, H4, H5, hz, L0, L1⟩ := h
  exact ⟨kx_H1_cp (e1 0 (by omega)) (e1 1 (by omega)) (e1 4 (by omega)) (fun j hj => er j (by omega)) hm m8 ek H1, kx_H2_cg e3 e4 (fun j hj => er j (by omega)) H2, kx_H3_cg e2 (er 0 (by omega)) H3, kx_H4_cg (e1 8 (by omega)) e12 (fun j hj => er j (by omega)) H4, kx_H5_cg (e1 10 (by omega)) e13 (fun j hj => er j (by omega)) H5, by rw [e1 11 (by omega), er 1 (by omega)]; exact hz, kx_L_cg e6 e7 (er 6 (by omega)) (fun j hj => er _ (by omega)) L0, kx_L_cg e9 e10 (er 7 (by omega)) (fun j hj => er _ (by omega)) L1⟩
theorem kx_mvl {f f' : Nat → Int32} {n j : Nat} (h : j < n) : kx_mv f f' n j = f j := if_pos h
theorem kx_hn_cg0 {g g' : kv_S} (e : ∀ b, ((0 < b ∧ b < 5) ∨ b = 6 ∨ b = 7 ∨ b = 9 ∨ b = 10 ∨ (11 < b ∧ b < 22)) → g' b = g b) (er : ∀ j, j < 268 → g' 66 j = g 66 j) (h : kx_hn kx_L g) : kx_hn kx_L g' := by
  unfold kx_hn at h ⊢
  rw [e 1 (by omega), e 2 (by omega), e 3 (by omega), e 4 (by omega), e 6 (by omega), e 7 (by omega), e 9 (by omega), e 10 (by omega), e 12 (by omega), e 13 (by omega)]
  exact kx_H_cg (fun _ _ => rfl) rfl (fun _ _ => rfl) (fun _ _ => rfl) (fun k c hk hc => by rw [kx_kn_at hk, kx_kn_at hk, e _ (by omega)]) rfl (fun _ _ => rfl) rfl (fun _ _ => rfl) (fun _ _ => rfl) (fun _ _ => rfl) er h
set_option maxRecDepth 100000 in
theorem pr_image {E : kv_V} : kx_ok2 E (kx_Rl kx_L) 117 216 [] := by
  intro g w i hR hi
  obtain ⟨F0, F1, s, t, m, K, hF0, hF1, hX, hM, hKB, hKe⟩ := kx_Rl_XMK hR
  obtain ⟨q0, hq0, hm0, hb0, hy0⟩ := kx_Rl_q hR
  have q := hR.1
  have b1 := hX.2.1.1
  have b2 := hM.2.1.1
  have a1 := hX.1.1
  have a2 := hX.1.2.1
  have a4 := hX.1.2.2.2
  have d1 := hX.2.1.2.2
  have d2 := hM.2.1.2
  obtain ⟨n, n1, n2, n3, n4⟩ := hR.2.2.2.1
  refine kx_two (by decide) (Nat.le_of_ble_eq_true rfl) (by decide) (Nat.le_of_ble_eq_true rfl) ?_
  refine kx_st 0 (pc' := 0) (L' := [some (.ref 0)]) (st' := []) (h' := kv_wd g w) rfl ?_
  refine kx_st 4 (pc' := 8) (L' := [some (.ref 0)]) (st' := [.ref 1, .ref 22]) (h' := kv_wd g w) rfl ?_
  obtain ⟨g8, e8, u1, u2, u3, u4, u5, u6, u7, u8, u9, u11, u12, u13⟩ := ev_hsCopy22 (E := E) (d := 897) (g := g) (w := w) q m a4 d1 (fun j hj => by rw [hX.2.2.2.2 j hj 7 (by omega)]; exact kx_K_tied (hKB j hj))
  refine kx_call (z := 10) (as := [.ref 22, .ref 1]) (rest := []) (v := none) (h1 := kv_wd g8 w) rfl e8 ?_
  refine kx_st 0 (pc' := 11) (L' := [some (.ref 0)]) (st' := []) (h' := kv_wd g8 w) rfl ?_
  refine kx_st 5 (pc' := 18) (L' := [some (.ref 0)]) (st' := [.int ((g8 0 2) + 1), .ref 0]) (h' := kv_wd g8 w) rfl ?_
  refine kx_pf (i := 19) (k := 2) (x := ((g8 0 2) + 1)) rfl rfl (by decide) rfl (Nat.le_of_ble_eq_true rfl) rfl rfl rfl ?_
  refine kx_st 2 (pc' := 25) (L' := [some (.ref 0)]) (st' := [.int ((kv_up g8 0 2 ((g8 0 2) + 1)) 0 2)]) (h' := kv_wd (kv_up g8 0 2 ((g8 0 2) + 1)) w) rfl ?_
  refine kx_ret (v := some (.int ((kv_up g8 0 2 ((g8 0 2) + 1)) 0 2))) rfl ?_
  refine ⟨_, _, _, rfl, rfl, ?_⟩
  refine kx_st 0 (pc' := 0) (L' := [some (.ref 65)]) (st' := []) (h' := kv_wd (kv_up g8 0 2 ((g8 0 2) + 1)) w) rfl ?_
  refine kx_st 5 (pc' := 9) (L' := [some (.ref 65)]) (st' := [.ref 67, .ref 66, .ref 65]) (h' := kv_wd (kv_up g8 0 2 ((g8 0 2) + 1)) w) rfl ?_
  refine kx_call (z := 133) (as := [.ref 65, .ref 66, .ref 67]) (rest := []) (v := none) (h1 := kv_wd (kv_uf (kv_up g8 0 2 ((g8 0 2) + 1)) 67 (kx_mv ((kv_up g8 0 2 ((g8 0 2) + 1)) 66) ((kv_up g8 0 2 ((g8 0 2) + 1)) 67) 268)) w) rfl (ev_moveAll (d := 898) (a := 66) (b := 67) rfl rfl (by decide) (by decide) (by decide)) ?_
  refine kx_st 0 (pc' := 12) (L' := [some (.ref 65)]) (st' := []) (h' := kv_wd (kv_uf (kv_up g8 0 2 ((g8 0 2) + 1)) 67 (kx_mv ((kv_up g8 0 2 ((g8 0 2) + 1)) 66) ((kv_up g8 0 2 ((g8 0 2) + 1)) 67) 268)) w) rfl ?_
  refine kx_st 2 (pc' := 14) (L' := [some (.ref 65)]) (st' := [.int 1, .ref 65]) (h' := kv_wd (kv_uf (kv_up g8 0 2 ((g8 0 2) + 1)) 67 (kx_mv ((kv_up g8 0 2 ((g8 0 2) + 1)) 66) ((kv_up g8 0 2 ((g8 0 2) + 1)) 67) 268)) w) rfl ?_
  refine kx_pf (i := 247) (k := 4) (x := 1) rfl rfl (by decide) rfl (Nat.le_of_ble_eq_true rfl) rfl rfl rfl ?_
  refine kx_st 5 (pc' := 24) (L' := [some (.ref 65)]) (st' := [.int (((kv_up (kv_uf (kv_up g8 0 2 ((g8 0 2) + 1)) 67 (kx_mv ((kv_up g8 0 2 ((g8 0 2) + 1)) 66) ((kv_up g8 0 2 ((g8 0 2) + 1)) 67) 268)) 65 4 1) 65 5) + 1), .ref 65]) (h' := kv_wd (kv_up (kv_uf (kv_up g8 0 2 ((g8 0 2) + 1)) 67 (kx_mv ((kv_up g8 0 2 ((g8 0 2) + 1)) 66) ((kv_up g8 0 2 ((g8 0 2) + 1)) 67) 268)) 65 4 1) w) rfl ?_
  refine kx_pf (i := 250) (k := 5) (x := (((kv_up (kv_uf (kv_up g8 0 2 ((g8 0 2) + 1)) 67 (kx_mv ((kv_up g8 0 2 ((g8 0 2) + 1)) 66) ((kv_up g8 0 2 ((g8 0 2) + 1)) 67) 268)) 65 4 1) 65 5) + 1)) rfl rfl (by decide) rfl (Nat.le_of_ble_eq_true rfl) rfl rfl rfl ?_
  refine kx_st 2 (pc' := 31) (L' := [some (.ref 65)]) (st' := [.int ((kv_up (kv_up (kv_uf (kv_up g8 0 2 ((g8 0 2) + 1)) 67 (kx_mv ((kv_up g8 0 2 ((g8 0 2) + 1)) 66) ((kv_up g8 0 2 ((g8 0 2) + 1)) 67) 268)) 65 4 1) 65 5 (((kv_up (kv_uf (kv_up g8 0 2 ((g8 0 2) + 1)) 67 (kx_mv ((kv_up g8 0 2 ((g8 0 2) + 1)) 66) ((kv_up g8 0 2 ((g8 0 2) + 1)) 67) 268)) 65 4 1) 65 5) + 1)) 65 5)]) (h' := kv_wd (kv_up (kv_up (kv_uf (kv_up g8 0 2 ((g8 0 2) + 1)) 67 (kx_mv ((kv_up g8 0 2 ((g8 0 2) + 1)) 66) ((kv_up g8 0 2 ((g8 0 2) + 1)) 67) 268)) 65 4 1) 65 5 (((kv_up (kv_uf (kv_up g8 0 2 ((g8 0 2) + 1)) 67 (kx_mv ((kv_up g8 0 2 ((g8 0 2) + 1)) 66) ((kv_up g8 0 2 ((g8 0 2) + 1)) 67) 268)) 65 4 1) 65 5) + 1)) w) rfl ?_
  refine kx_ret (v := some (.int ((kv_up (kv_up (kv_uf (kv_up g8 0 2 ((g8 0 2) + 1)) 67 (kx_mv ((kv_up g8 0 2 ((g8 0 2) + 1)) 66) ((kv_up g8 0 2 ((g8 0 2) + 1)) 67) 268)) 65 4 1) 65 5 (((kv_up (kv_uf (kv_up g8 0 2 ((g8 0 2) + 1)) 67 (kx_mv ((kv_up g8 0 2 ((g8 0 2) + 1)) 66) ((kv_up g8 0 2 ((g8 0 2) + 1)) 67) 268)) 65 4 1) 65 5) + 1)) 65 5))) rfl ?_
  obtain ⟨G, eG⟩ : ∃ G : kv_S, G = kv_up (kv_up (kv_uf (kv_up g8 0 2 ((g8 0 2) + 1)) 67 (kx_mv ((kv_up g8 0 2 ((g8 0 2) + 1)) 66) ((kv_up g8 0 2 ((g8 0 2) + 1)) 67) 268)) 65 4 1) 65 5 (((kv_up (kv_uf (kv_up g8 0 2 ((g8 0 2) + 1)) 67 (kx_mv ((kv_up g8 0 2 ((g8 0 2) + 1)) 66) ((kv_up g8 0 2 ((g8 0 2) + 1)) 67) 268)) 65 4 1) 65 5) + 1) := ⟨_, rfl⟩
  have f : ∀ b, (b < 22 ∨ 42 < b) → b ≠ 0 → b ≠ 65 → b ≠ 67 → G b = g b := fun b hb b0 b65 b67 => by rw [eG, kv_up_ne b65, kv_up_ne b65, kv_uf_ne b67, kv_up_ne b0, u13 b hb]
  have fk : ∀ b, 22 ≤ b → b ≤ 42 → G b = g8 b := fun b b1 b2 => by rw [eG, kv_up_ne (by omega), kv_up_ne (by omega), kv_uf_ne (by omega), kv_up_ne (by omega)]
  have f65 : ∀ k, k ≠ 4 → k ≠ 5 → G 65 k = g 65 k := fun k k4 k5 => by rw [eG, kv_up_at, kx_upn k5, kv_up_at, kx_upn k4, kv_uf_ne (by omega), kv_up_ne (by omega), u13 65 (by omega)]
  have f67 : ∀ j, j < 268 → G 67 j = g 66 j := fun j hj => by rw [eG, kv_up_ne (by omega), kv_up_ne (by omega), kv_uf_self, kx_mvl hj, kv_up_ne (by omega), u13 66 (by omega)]
  have ev : g8 0 2 = nI n := by rw [u13 0 (by omega)]; exact n2
  have ew : g8 65 5 = nI n := by rw [u13 65 (by omega)]; exact n3
  have hG0 : G 0 2 = nI (n + 1) := by rw [eG]; show g8 0 2 + 1 = _; rw [ev, nI_succ]
  have hG5 : G 65 5 = nI (n + 1) := by rw [eG]; show g8 65 5 + 1 = _; rw [ew, nI_succ]
  have hG4 : G 65 4 = 1 := by rw [eG]; rfl
  refine ⟨?_, _, w, rfl, ?_⟩
  · show some (Value.int (g8 65 5 + 1)) = some (Value.int (g8 0 2 + 1))
    rw [ev, ew]
  · rw [← eG]
    obtain ⟨Q, ⟨c1, c2, c3, c4⟩, hn, -, sh, tr, er⟩ := hR
    refine ⟨Q, ⟨by rw [f 6 (by omega) (by omega) (by omega) (by omega)]; exact c1, by rw [f 9 (by omega) (by omega) (by omega) (by omega)]; exact c2, by rw [fk 27 (by omega) (by omega), u6.2]; exact c3, by rw [fk 30 (by omega) (by omega), u8.2]; exact c4⟩, kx_hn_cg0 (fun b hb => f b (by omega) (by omega) (by omega) (by omega)) (fun j hj => by rw [f 66 (by omega) (by omega) (by omega) (by omega)]) hn, ⟨n + 1, by omega, hG0, hG5, Or.inr ⟨by omega, hG4, ?_⟩⟩, ?_, ?_, ?_⟩
    · unfold kx_hk
      rw [fk 22 (by omega) (by omega), fk 23 (by omega) (by omega), fk 24 (by omega) (by omega), fk 25 (by omega) (by omega), fk 27 (by omega) (by omega), fk 28 (by omega) (by omega), fk 30 (by omega) (by omega), fk 31 (by omega) (by omega), fk 33 (by omega) (by omega), fk 34 (by omega) (by omega)]
      exact kx_H_cp (h1 := g 1) (hd := g 2) (lf := g 3) (rt := g 4) (kn := kx_kn g) (l0 := g 6) (s0 := g 7) (l1 := g 9) (s1 := g 10) (tp := g 12) (wt := g 13) (r := g 66) d2 a4 u1 u2 u3 u4 (fun k c hk hc => by rw [kx_kk_at (by omega), kx_kn_at (by omega), fk _ (by omega) (by omega)]; exact u5 k hk c hc) u6.1 u7 u8.1 u9 u11 u12 f67 hn
    · unfold kx_sh at sh ⊢
      rw [f 56 (by omega) (by omega) (by omega) (by omega), f 57 (by omega) (by omega) (by omega) (by omega), f 58 (by omega) (by omega) (by omega) (by omega), f 59 (by omega) (by omega) (by omega) (by omega), f 60 (by omega) (by omega) (by omega) (by omega), f 61 (by omega) (by omega) (by omega) (by omega), f 62 (by omega) (by omega) (by omega) (by omega), f 63 (by omega) (by omega) (by omega) (by omega), f 71 (by omega) (by omega) (by omega) (by omega), f 72 (by omega) (by omega) (by omega) (by omega), f 73 (by omega) (by omega) (by omega) (by omega)]
      exact sh
    · unfold kx_tr at tr ⊢
      rw [f 53 (by omega) (by omega) (by omega) (by omega), f 54 (by omega) (by omega) (by omega) (by omega), f 75 (by omega) (by omega) (by omega) (by omega), f65 20 (by omega) (by omega)]
      exact tr
    · unfold kx_er at er ⊢
      rw [f 64 (by omega) (by omega) (by omega) (by omega), f 70 (by omega) (by omega) (by omega) (by omega)]
      exact er
set_option maxRecDepth 100000 in
theorem pr_restore {E : kv_V} : kx_ok2 E (kx_Rl kx_L) 118 217 [] := by
  intro g w i hR hi
  obtain ⟨F0, F1, s, t, m, K, hF0, hF1, hX, hM, hKB, hKe⟩ := kx_Rl_XMK hR
  obtain ⟨q0, hq0, hm0, hb0, hy0⟩ := kx_Rl_q hR
  have q := hR.1
  have b1 := hX.2.1.1
  have b2 := hM.2.1.1
  have a1 := hX.1.1
  have a2 := hX.1.2.1
  have a4 := hX.1.2.2.2
  have d1 := hX.2.1.2.2
  have d2 := hM.2.1.2
  obtain ⟨n, n1, n2, n3, n4⟩ := hR.2.2.2.1
  rcases n4 with ⟨n0, n65⟩ | ⟨n0, n65, hk⟩
  · refine kx_two (by decide) (Nat.le_of_ble_eq_true rfl) (by decide) (Nat.le_of_ble_eq_true rfl) ?_
    refine kx_st 0 (pc' := 0) (L' := [some (.ref 0)]) (st' := []) (h' := kv_wd g w) rfl ?_
    refine kx_st 2 (pc' := 4) (L' := [some (.ref 0)]) (st' := [.int (g 0 2)]) (h' := kv_wd g w) rfl ?_
    refine kx_bc (t := 13) rfl rfl (fun (h4 : ¬ g 0 2 = 0) => ?_) (fun (h4 : ¬ (¬ g 0 2 = 0)) => ?_)
    · exact absurd (by rw [n2, n0]; rfl) h4
    · refine kx_st 0 (pc' := 7) (L' := [some (.ref 0)]) (st' := []) (h' := kv_wd g w) rfl ?_
      refine kx_st 2 (pc' := 9) (L' := [some (.ref 0)]) (st' := [.int 2, .ref 0]) (h' := kv_wd g w) rfl ?_
      refine kx_call (z := 123) (as := [.ref 0, .int 2]) (rest := []) (v := some (.int (-1000000000 - nI 2))) (h1 := kv_wd (kv_up g 64 2 (g 64 2 + 1)) w) rfl (ev_error (d := 898) 2 (by decide) (by decide)) ?_
      refine kx_st 0 (pc' := 12) (L' := [some (.ref 0)]) (st' := [.int (-1000000000 - nI 2)]) (h' := kv_wd (kv_up g 64 2 (g 64 2 + 1)) w) rfl ?_
      refine kx_ret (v := some (.int (-1000000000 - nI 2))) rfl ?_
      refine ⟨_, _, _, rfl, rfl, ?_⟩
      refine kx_st 0 (pc' := 0) (L' := [some (.ref 65)]) (st' := []) (h' := kv_wd (kv_up g 64 2 (g 64 2 + 1)) w) rfl ?_
      refine kx_st 2 (pc' := 4) (L' := [some (.ref 65)]) (st' := [.int ((kv_up g 64 2 (g 64 2 + 1)) 65 4)]) (h' := kv_wd (kv_up g 64 2 (g 64 2 + 1)) w) rfl ?_
      refine kx_bc (t := 14) rfl rfl (fun (m4 : ¬ (kv_up g 64 2 (g 64 2 + 1)) 65 4 = 0) => ?_) (fun (m4 : ¬ (¬ (kv_up g 64 2 (g 64 2 + 1)) 65 4 = 0)) => ?_)
      · exact absurd n65 m4
      · refine kx_st 0 (pc' := 7) (L' := [some (.ref 65)]) (st' := []) (h' := kv_wd (kv_up g 64 2 (g 64 2 + 1)) w) rfl ?_
        refine kx_st 2 (pc' := 10) (L' := [some (.ref 65)]) (st' := [.int (-1000000002), .ref 65]) (h' := kv_wd (kv_up g 64 2 (g 64 2 + 1)) w) rfl ?_
        refine kx_call (z := 131) (as := [.ref 65, .int (-1000000002)]) (rest := []) (v := some (.int (-1000000002))) (h1 := kv_wd (kv_up (kv_up g 64 2 (g 64 2 + 1)) 70 2 ((kv_up g 64 2 (g 64 2 + 1)) 70 2 + 1)) w) rfl (ev_errs (d := 898) (-1000000002) 2 (by decide) (by decide)) ?_
        refine kx_st 0 (pc' := 13) (L' := [some (.ref 65)]) (st' := [.int (-1000000002)]) (h' := kv_wd (kv_up (kv_up g 64 2 (g 64 2 + 1)) 70 2 ((kv_up g 64 2 (g 64 2 + 1)) 70 2 + 1)) w) rfl ?_
        refine kx_ret (v := some (.int (-1000000002))) rfl ?_
        exact ⟨rfl, _, _, rfl, kx_Rl_e hR⟩
  · obtain ⟨H1, H2, H3, H4, H5, hz, l0, l1⟩ := id hk
    obtain ⟨s2, t2, m2, ⟨p1, p2, p3, p4⟩, ⟨o1, o2⟩, ⟨x1, x2⟩, ⟨y1, y2⟩, hkk⟩ := id H1
    have h7 : ∀ j, j < m2 → g (35 + j) 7 = 0 ∨ g (35 + j) 7 = 1 := fun j hj => by
      have z := hkk j hj
      have z1 := z.1 7 (by omega)
      rw [kx_kk_at (by omega)] at z1
      rw [z1]
      exact z.2.2.2.2.2.2.2.1
    refine kx_two (by decide) (Nat.le_of_ble_eq_true rfl) (by decide) (Nat.le_of_ble_eq_true rfl) ?_
    refine kx_st 0 (pc' := 0) (L' := [some (.ref 0)]) (st' := []) (h' := kv_wd g w) rfl ?_
    refine kx_st 2 (pc' := 4) (L' := [some (.ref 0)]) (st' := [.int (g 0 2)]) (h' := kv_wd g w) rfl ?_
    refine kx_bc (t := 13) rfl rfl (fun (h4 : ¬ g 0 2 = 0) => ?_) (fun (h4 : ¬ (¬ g 0 2 = 0)) => ?_)
    · refine kx_st 4 (pc' := 21) (L' := [some (.ref 0)]) (st' := [.ref 22, .ref 1]) (h' := kv_wd g w) rfl ?_
      obtain ⟨g8, e8, u1, u2, u3, u4, u5, u6, u7, u8, u9, u11, u12, u13⟩ := ev_hsCopy1 (E := E) (d := 897) (g := g) (w := w) q m2 p4 y1 h7
      refine kx_call (z := 10) (as := [.ref 1, .ref 22]) (rest := []) (v := none) (h1 := kv_wd g8 w) rfl e8 ?_
      refine kx_st 0 (pc' := 24) (L' := [some (.ref 0)]) (st' := []) (h' := kv_wd g8 w) rfl ?_
      refine kx_st 4 (pc' := 34) (L' := [some (.ref 0)]) (st' := [.int (g8 2 2)]) (h' := kv_wd g8 w) rfl ?_
      refine kx_ret (v := some (.int (g8 2 2))) rfl ?_
      refine ⟨_, _, _, rfl, rfl, ?_⟩
      refine kx_st 0 (pc' := 0) (L' := [some (.ref 65)]) (st' := []) (h' := kv_wd g8 w) rfl ?_
      refine kx_st 2 (pc' := 4) (L' := [some (.ref 65)]) (st' := [.int (g8 65 4)]) (h' := kv_wd g8 w) rfl ?_
      refine kx_bc (t := 14) rfl rfl (fun (m4 : ¬ g8 65 4 = 0) => ?_) (fun (m4 : ¬ (¬ g8 65 4 = 0)) => ?_)
      · refine kx_st 5 (pc' := 23) (L' := [some (.ref 65)]) (st' := [.ref 66, .ref 67, .ref 65]) (h' := kv_wd g8 w) rfl ?_
        refine kx_call (z := 133) (as := [.ref 65, .ref 67, .ref 66]) (rest := []) (v := none) (h1 := kv_wd (kv_uf g8 66 (kx_mv (g8 67) (g8 66) 268)) w) rfl (ev_moveAll (d := 898) (a := 67) (b := 66) rfl rfl (by decide) (by decide) (by decide)) ?_
        refine kx_st 0 (pc' := 26) (L' := [some (.ref 65)]) (st' := []) (h' := kv_wd (kv_uf g8 66 (kx_mv (g8 67) (g8 66) 268)) w) rfl ?_
        refine kx_st 3 (pc' := 31) (L' := [some (.ref 65)]) (st' := [.int 0, .ref 66]) (h' := kv_wd (kv_uf g8 66 (kx_mv (g8 67) (g8 66) 268)) w) rfl ?_
        refine kx_ia (k := 0) rfl rfl (by decide) rfl (by decide) (by decide) ?_
        refine kx_ret (v := some (.int ((kv_uf g8 66 (kx_mv (g8 67) (g8 66) 268)) 66 0))) rfl ?_
        obtain ⟨G, eG⟩ : ∃ G : kv_S, G = kv_uf g8 66 (kx_mv (g8 67) (g8 66) 268) := ⟨_, rfl⟩
        have f : ∀ b, (b < 1 ∨ 21 < b) → b ≠ 66 → G b = g b := fun b hb b66 => by rw [eG, kv_uf_ne b66, u13 b hb]
        have fk : ∀ b, 1 ≤ b → b ≤ 21 → G b = g8 b := fun b b1 b2 => by rw [eG, kv_uf_ne (by omega)]
        have f66 : ∀ j, j < 268 → G 66 j = g 67 j := fun j hj => by rw [eG, kv_uf_self, kx_mvl hj, u13 67 (by omega)]
        refine ⟨?_, _, w, rfl, ?_⟩
        · obtain ⟨yy, z1, z2, z3⟩ := H3
          show some (Value.int (kx_mv (g8 67) (g8 66) 268 0)) = some (Value.int (g8 2 2))
          rw [kx_mvl (by omega), u13 67 (by omega), u2, z3, z2]
        · rw [← eG]
          obtain ⟨Q, ⟨c1, c2, c3, c4⟩, -, -, sh, tr, er⟩ := hR
          refine ⟨Q, ⟨by rw [fk 6 (by omega) (by omega), u6.2]; exact c1, by rw [fk 9 (by omega) (by omega), u8.2]; exact c2, by rw [f 27 (by omega) (by omega)]; exact c3, by rw [f 30 (by omega) (by omega)]; exact c4⟩, ?_, ⟨n, by omega, by rw [f 0 (by omega) (by omega)]; exact n2, by rw [f 65 (by omega) (by omega)]; exact n3, Or.inr ⟨n0, by rw [f 65 (by omega) (by omega)]; exact n65, ?_⟩⟩, ?_, ?_, ?_⟩
          · unfold kx_hn
            rw [fk 1 (by omega) (by omega), fk 2 (by omega) (by omega), fk 3 (by omega) (by omega), fk 4 (by omega) (by omega), fk 6 (by omega) (by omega), fk 7 (by omega) (by omega), fk 9 (by omega) (by omega), fk 10 (by omega) (by omega), fk 12 (by omega) (by omega), fk 13 (by omega) (by omega)]
            exact kx_H_cp (h1 := g 22) (hd := g 23) (lf := g 24) (rt := g 25) (kn := kx_kk g) (l0 := g 27) (s0 := g 28) (l1 := g 30) (s1 := g 31) (tp := g 33) (wt := g 34) (r := g 67) y2 p4 u1 u2 u3 u4 (fun k c hk hc => by rw [kx_kn_at (by omega), kx_kk_at (by omega), fk _ (by omega) (by omega)]; exact u5 k hk c hc) u6.1 u7 u8.1 u9 u11 u12 f66 hk
          · unfold kx_hk at hk ⊢
            have ek : kx_kk G = kx_kk g := by
              funext k
              unfold kx_kk
              split <;> exact f _ (by omega) (by omega)
            rw [f 22 (by omega) (by omega), f 23 (by omega) (by omega), f 24 (by omega) (by omega), f 25 (by omega) (by omega), f 27 (by omega) (by omega), f 28 (by omega) (by omega), f 30 (by omega) (by omega), f 31 (by omega) (by omega), f 33 (by omega) (by omega), f 34 (by omega) (by omega), f 67 (by omega) (by omega), ek]
            exact hk
          · unfold kx_sh at sh ⊢
            rw [f 56 (by omega) (by omega), f 57 (by omega) (by omega), f 58 (by omega) (by omega), f 59 (by omega) (by omega), f 60 (by omega) (by omega), f 61 (by omega) (by omega), f 62 (by omega) (by omega), f 63 (by omega) (by omega), f 71 (by omega) (by omega), f 72 (by omega) (by omega), f 73 (by omega) (by omega)]
            exact sh
          · unfold kx_tr at tr ⊢
            rw [f 53 (by omega) (by omega), f 54 (by omega) (by omega), f 75 (by omega) (by omega), f 65 (by omega) (by omega)]
            exact tr
          · unfold kx_er at er ⊢
            rw [f 64 (by omega) (by omega), f 70 (by omega) (by omega)]
            exact er
      · exact absurd (show ¬ g8 65 4 = 0 by rw [u13 65 (by omega), n65]; decide) m4
    · exact absurd (Classical.not_not.mp h4) (by rw [n2]; exact nI_ne0 n0 (by omega))
theorem kx_sh8 : ∀ i, i < 8 → ((((8 * nI i).toInt64.toUInt64 &&& Int64.toUInt64 63).toBitVec % 64).toNat = 8 * i ∧ (((8 * nI i).toInt64 &&& 63).toBitVec.smod 64).toNat = 8 * i) := by decide +kernel
theorem kx_255 : ∀ j, j < 32 → (255 : Int32).toBitVec.getLsbD j = decide (j < 8) ∧ (255 : Int64).toBitVec.getLsbD j = decide (j < 8) := by decide +kernel
def kx_by (w : Int64) (i : Nat) : Int32 := ((w >>> ((8 * nI i).toInt64 &&& 63)) &&& 255).toInt32
theorem kx_byx (w : Int64) (i : Nat) (hi : i < 8) : ((w.toUInt64 >>> ((8 * nI i).toInt64.toUInt64 &&& Int64.toUInt64 63)).toInt64.toInt32 &&& 255) = kx_by w i := by
  unfold kx_by
  obtain ⟨s1, s2⟩ := kx_sh8 i hi
  apply Int32.toBitVec_inj.mp
  rw [Int32.toBitVec_and, Int64.toBitVec_toInt32, Int64.toBitVec_toInt32, Int64.toBitVec_and, UInt64.toBitVec_toInt64, UInt64.toBitVec_shiftRight, Int64.toBitVec_shiftRight]
  rw [BitVec.signExtend_eq_setWidth_of_le _ (by omega), BitVec.signExtend_eq_setWidth_of_le _ (by omega)]
  rw [BitVec.ushiftRight_eq', s1, BitVec.sshiftRight_eq', s2]
  apply BitVec.eq_of_getLsbD_eq
  intro j hj
  rw [BitVec.getLsbD_and, BitVec.getLsbD_setWidth, BitVec.getLsbD_setWidth, BitVec.getLsbD_and, BitVec.getLsbD_ushiftRight, BitVec.getLsbD_sshiftRight, (kx_255 j hj).1, (kx_255 j hj).2]
  by_cases h8 : j < 8
  · have a1 : decide (j < 32) = true := decide_eq_true hj
    have a2 : decide (64 ≤ j) = false := decide_eq_false (by omega)
    rw [if_pos (show 8 * i + j < 64 by omega), a1, a2]
    simp
  · rw [decide_eq_false h8]; simp
theorem kx_byb (w : Int64) (i : Nat) (hi : i < 8) : ∃ b, b ≤ 255 ∧ kx_by w i = nI b := by
  rw [← kx_byx w i hi]
  obtain ⟨b, hb, e⟩ := vp_in_of (pk_andIn ((w.toUInt64 >>> ((8 * nI i).toInt64.toUInt64 &&& Int64.toUInt64 63)).toInt64.toInt32) (m := 255) 8 (by decide) (by omega)) (by decide)
  exact ⟨b, by omega, e⟩
def kx_fd (f : Nat → Int32) (o : Nat) (B : Nat → Int32) (i : Nat) : Nat → Int32 := fun j => if o ≤ j ∧ j < o + i then B (j - o) else f j
theorem kx_fd_0 (f : Nat → Int32) (o : Nat) (B : Nat → Int32) : kx_fd f o B 0 = f := by funext j; unfold kx_fd; rw [if_neg (by omega)]
theorem kx_fd_s (f : Nat → Int32) (o : Nat) (B : Nat → Int32) (i : Nat) : upd (kx_fd f o B i) (o + i) (B i) = kx_fd f o B (i + 1) := by
  funext j
  unfold upd kx_fd
  by_cases h : j = o + i
  · rw [if_pos h, if_pos (by omega), show j - o = i by omega]
  · rw [if_neg h]
    have e : (o ≤ j ∧ j < o + i) ↔ (o ≤ j ∧ j < o + (i + 1)) := by omega
    simp only [e]
set_option maxRecDepth 100000 in
theorem ev_addByte {E : kv_V} {d : Nat} {g : kv_S} {w : kv_W} (n : Nat) (hn : g 1 8 = nI n) (h50 : n < 50) (b : Int32) : kv_ev E (d + 1) 20 [.ref 1, .int b] (kv_wd g w) none (kv_wd (kv_up (kv_up g 12 n b) 1 8 (nI (n + 1))) w) := by
  refine kx_ev (d := d + 0) (by decide) (Nat.le_of_ble_eq_true rfl) ?_
  refine kx_st 0 (pc' := 0) (L' := [some (.ref 1), some (.int b)]) (st' := []) (h' := kv_wd g w) rfl ?_
  refine kx_st 5 (pc' := 9) (L' := [some (.ref 1), some (.int b)]) (st' := [.int 50, .int (g 1 8)]) (h' := kv_wd g w) rfl ?_
  refine kx_bi (t := 32) rfl rfl (fun (h9 : 50 ≤ g 1 8) => ?_) (fun (h9 : ¬ (50 ≤ g 1 8)) => ?_)
  · exact absurd h9 (by rw [hn]; exact nI_ge (a := n) (b := 50) (by omega) (by omega))
  · refine kx_st 0 (pc' := 12) (L' := [some (.ref 1), some (.int b)]) (st' := []) (h' := kv_wd g w) rfl ?_
    refine kx_st 5 (pc' := 21) (L' := [some (.ref 1), some (.int b)]) (st' := [.int b, .int (g 1 8), .ref 12]) (h' := kv_wd g w) rfl ?_
    refine kx_is (k := n) rfl rfl (by decide) hn (by omega) (by decide) ?_
    refine kx_st 5 (pc' := 29) (L' := [some (.ref 1), some (.int b)]) (st' := [.int (((kv_up g 12 n b) 1 8) + 1), .ref 1]) (h' := kv_wd (kv_up g 12 n b) w) rfl ?_
    refine kx_pf (i := 48) (k := 8) (x := (((kv_up g 12 n b) 1 8) + 1)) rfl rfl (by decide) rfl (Nat.le_of_ble_eq_true rfl) rfl rfl rfl ?_
    refine kx_ret (v := none) rfl ?_
    refine ⟨rfl, ?_⟩
    rw [show (kv_up g 12 n b) 1 8 + 1 = nI (n + 1) from by show g 1 8 + 1 = _; rw [hn, nI_succ]]
set_option maxRecDepth 100000 in
theorem lp_xfeed {E : kv_V} {d : Nat} {g : kv_S} {w : kv_W} (w0 : Int64) (n0 n : Nat) (n8 : n ≤ 8) (n50 : n0 + n ≤ 50) {P : Option Value → kv_H → Prop} (hP : ∀ g1 : kv_S, (g1 1 8 = nI (n0 + n) ∧ (∀ k, k ≠ 8 → g1 1 k = g 1 k) ∧ g1 12 = kx_fd (g 12) n0 (kx_by w0) n ∧ ∀ b, b ≠ 1 → b ≠ 12 → g1 b = g b) → P (some (.int (nI (n0 + n)))) (kv_wd g1 w)) : ∀ (nz i : Nat) (g1 : kv_S), i + nz = n → (g1 1 8 = nI (n0 + i) ∧ (∀ k, k ≠ 8 → g1 1 k = g 1 k) ∧ g1 12 = kx_fd (g 12) n0 (kx_by w0) i ∧ ∀ b, b ≠ 1 → b ≠ 12 → g1 b = g b) → kx_V E (d + 1) 90 40 [some (.ref 0), some (.long w0), none, some (.int (nI n)), some (.int (nI i))] [] (kv_wd g1 w) P := by
  intro nz
  induction nz with
  | zero =>
    intro i g1 hi h1
    have hkN : i = n := by omega
    refine kx_st 2 (pc' := 43) (L' := [some (.ref 0), some (.long w0), none, some (.int (nI n)), some (.int (nI i))]) (st' := [.int (nI n), .int (nI i)]) (h' := kv_wd g1 w) rfl ?_
    refine kx_bi (t := 71) rfl rfl (fun (h43 : nI n ≤ nI i) => ?_) (fun (h43 : ¬ (nI n ≤ nI i)) => ?_)
    · refine kx_st 3 (pc' := 78) (L' := [some (.ref 0), some (.long w0), none, some (.int (nI n)), some (.int (nI i))]) (st' := [.int (g1 1 8)]) (h' := kv_wd g1 w) rfl ?_
      refine kx_ret (v := some (.int (g1 1 8))) rfl ?_
      subst hkN
      rw [h1.1]
      exact hP g1 h1
    · exact absurd (nI_le (a := n) (b := i) (by omega) (by omega)) h43
  | succ nz ih =>
    intro i g1 hi h1
    refine kx_st 2 (pc' := 43) (L' := [some (.ref 0), some (.long w0), none, some (.int (nI n)), some (.int (nI i))]) (st' := [.int (nI n), .int (nI i)]) (h' := kv_wd g1 w) rfl ?_
    refine kx_bi (t := 71) rfl rfl (fun (h43 : nI n ≤ nI i) => ?_) (fun (h43 : ¬ (nI n ≤ nI i)) => ?_)
    · exact absurd h43 (nI_ge (a := i) (b := n) (by omega) (by omega))
    · refine kx_st 0 (pc' := 46) (L' := [some (.ref 0), some (.long w0), none, some (.int (nI n)), some (.int (nI i))]) (st' := []) (h' := kv_wd g1 w) rfl ?_
      refine kx_st 10 (pc' := 62) (L' := [some (.ref 0), some (.long w0), none, some (.int (nI n)), some (.int (nI i))]) (st' := [.int ((((w0.toUInt64 >>> ((8 * (nI i)).toInt64.toUInt64 &&& Int64.toUInt64 63)).toInt64).toInt32) &&& 255), .ref 1]) (h' := kv_wd g1 w) rfl ?_
      refine kx_call (z := 20) (as := [.ref 1, .int ((((w0.toUInt64 >>> ((8 * (nI i)).toInt64.toUInt64 &&& Int64.toUInt64 63)).toInt64).toInt32) &&& 255)]) (rest := []) (v := none) (h1 := kv_wd (kv_up (kv_up g1 12 (n0 + i) (kx_by w0 i)) 1 8 (nI (n0 + i + 1))) w) rfl (by rw [show (((w0.toUInt64 >>> ((8 * (nI i)).toInt64.toUInt64 &&& Int64.toUInt64 63)).toInt64).toInt32) &&& 255 = kx_by w0 i from kx_byx w0 i (by omega)]; exact ev_addByte (d := d) (n0 + i) h1.1 (by omega) (kx_by w0 i)) ?_
      refine kx_st 0 (pc' := 65) (L' := [some (.ref 0), some (.long w0), none, some (.int (nI n)), some (.int (nI i))]) (st' := []) (h' := kv_wd (kv_up (kv_up g1 12 (n0 + i) (kx_by w0 i)) 1 8 (nI (n0 + i + 1))) w) rfl ?_
      refine kx_st 2 (pc' := 40) (L' := [some (.ref 0), some (.long w0), none, some (.int (nI n)), some (.int ((nI i) + 1))]) (st' := []) (h' := kv_wd (kv_up (kv_up g1 12 (n0 + i) (kx_by w0 i)) 1 8 (nI (n0 + i + 1))) w) rfl ?_
      rw [← nI_succ]
      refine ih (i + 1) _ (by omega) ⟨rfl, fun k hk => (kx_upn hk).trans (h1.2.1 k hk), ?_, fun b b1 b2 => by rw [kv_up_ne b1, kv_up_ne b2]; exact h1.2.2.2 b b1 b2⟩
      show upd (g1 12) (n0 + i) _ = _
      rw [h1.2.2.1, kx_fd_s]
set_option maxRecDepth 100000 in
theorem lp_mfeed {E : kv_V} {d : Nat} {g : kv_S} {w : kv_W} (w0 : Int64) (n0 n : Nat) (n8 : n ≤ 8) (n50 : n0 + n ≤ 50) {P : Option Value → kv_H → Prop} (hP : ∀ g1 : kv_S, (g1 66 4 = nI (n0 + n) ∧ (∀ j, j ≠ 4 → g1 66 j = kx_fd (g 66) (98 + n0) (kx_by w0) n j) ∧ ∀ b, b ≠ 66 → g1 b = g b) → P (some (.int (nI (n0 + n)))) (kv_wd g1 w)) : ∀ (nz i : Nat) (g1 : kv_S), i + nz = n → (g1 66 4 = nI (n0 + i) ∧ (∀ j, j ≠ 4 → g1 66 j = kx_fd (g 66) (98 + n0) (kx_by w0) i j) ∧ ∀ b, b ≠ 66 → g1 b = g b) → kx_V E d 169 40 [some (.ref 65), some (.long w0), none, some (.int (nI n)), some (.int (nI i))] [] (kv_wd g1 w) P := by
  intro nz
  induction nz with
  | zero =>
    intro i g1 hi h1
    have hkN : i = n := by omega
    refine kx_st 2 (pc' := 43) (L' := [some (.ref 65), some (.long w0), none, some (.int (nI n)), some (.int (nI i))]) (st' := [.int (nI n), .int (nI i)]) (h' := kv_wd g1 w) rfl ?_
    refine kx_bi (t := 88) rfl rfl (fun (h43 : nI n ≤ nI i) => ?_) (fun (h43 : ¬ (nI n ≤ nI i)) => ?_)
    · refine kx_st 3 (pc' := 93) (L' := [some (.ref 65), some (.long w0), none, some (.int (nI n)), some (.int (nI i))]) (st' := [.int 4, .ref 66]) (h' := kv_wd g1 w) rfl ?_
      refine kx_ia (k := 4) rfl rfl (by decide) rfl (by decide) (by decide) ?_
      refine kx_ret (v := some (.int (g1 66 4))) rfl ?_
      subst hkN
      rw [h1.1]
      exact hP g1 h1
    · exact absurd (nI_le (a := n) (b := i) (by omega) (by omega)) h43
  | succ nz ih =>
    intro i g1 hi h1
    refine kx_st 2 (pc' := 43) (L' := [some (.ref 65), some (.long w0), none, some (.int (nI n)), some (.int (nI i))]) (st' := [.int (nI n), .int (nI i)]) (h' := kv_wd g1 w) rfl ?_
    refine kx_bi (t := 88) rfl rfl (fun (h43 : nI n ≤ nI i) => ?_) (fun (h43 : ¬ (nI n ≤ nI i)) => ?_)
    · exact absurd h43 (nI_ge (a := i) (b := n) (by omega) (by omega))
    · refine kx_st 0 (pc' := 46) (L' := [some (.ref 65), some (.long w0), none, some (.int (nI n)), some (.int (nI i))]) (st' := []) (h' := kv_wd g1 w) rfl ?_
      refine kx_st 6 (pc' := 57) (L' := [some (.ref 65), some (.long w0), none, some (.int (nI n)), some (.int (nI i))]) (st' := [.int 4, .ref 66, .int 98, .ref 66]) (h' := kv_wd g1 w) rfl ?_
      refine kx_ia (k := 4) rfl rfl (by decide) rfl (by decide) (by decide) ?_
      refine kx_st 9 (pc' := 71) (L' := [some (.ref 65), some (.long w0), none, some (.int (nI n)), some (.int (nI i))]) (st' := [.int (((w0 >>> ((8 * (nI i)).toInt64 &&& 63)) &&& 255).toInt32), .int (98 + (g1 66 4)), .ref 66]) (h' := kv_wd g1 w) rfl ?_
      refine kx_is (k := (98 + (n0 + i))) rfl rfl (by decide) (by rw [h1.1]; exact kx_nadd 98 (n0 + i)) (by omega) (by decide) ?_
      refine kx_st 4 (pc' := 78) (L' := [some (.ref 65), some (.long w0), none, some (.int (nI n)), some (.int (nI i))]) (st' := [.int 4, .ref 66, .int 4, .ref 66]) (h' := kv_wd (kv_up g1 66 (98 + (n0 + i)) (((w0 >>> ((8 * (nI i)).toInt64 &&& 63)) &&& 255).toInt32)) w) rfl ?_
      refine kx_ia (k := 4) rfl rfl (by decide) rfl (by decide) (by decide) ?_
      refine kx_st 2 (pc' := 81) (L' := [some (.ref 65), some (.long w0), none, some (.int (nI n)), some (.int (nI i))]) (st' := [.int (((kv_up g1 66 (98 + (n0 + i)) (((w0 >>> ((8 * (nI i)).toInt64 &&& 63)) &&& 255).toInt32)) 66 4) + 1), .int 4, .ref 66]) (h' := kv_wd (kv_up g1 66 (98 + (n0 + i)) (((w0 >>> ((8 * (nI i)).toInt64 &&& 63)) &&& 255).toInt32)) w) rfl ?_
      refine kx_is (k := 4) rfl rfl (by decide) rfl (by decide) (by decide) ?_
      refine kx_st 2 (pc' := 40) (L' := [some (.ref 65), some (.long w0), none, some (.int (nI n)), some (.int ((nI i) + 1))]) (st' := []) (h' := kv_wd (kv_up (kv_up g1 66 (98 + (n0 + i)) (((w0 >>> ((8 * (nI i)).toInt64 &&& 63)) &&& 255).toInt32)) 66 4 (((kv_up g1 66 (98 + (n0 + i)) (((w0 >>> ((8 * (nI i)).toInt64 &&& 63)) &&& 255).toInt32)) 66 4) + 1)) w) rfl ?_
      rw [← nI_succ]
      refine ih (i + 1) _ (by omega) ⟨?_, fun j hj => ?_, fun b b1 => by rw [kv_up_ne b1, kv_up_ne b1]; exact h1.2.2 b b1⟩
      · show upd (g1 66) (98 + (n0 + i)) _ 4 + 1 = _
        rw [kx_upn (by omega), h1.1, ← nI_succ]; rfl
      · show upd (upd (g1 66) (98 + (n0 + i)) (kx_by w0 i)) 4 _ j = _
        rw [kx_upn hj, ← kx_fd_s]
        by_cases hjj : j = 98 + n0 + i
        · rw [hjj, kx_ups, show 98 + n0 + i = 98 + (n0 + i) by omega, kx_ups]
        · rw [kx_upn (by omega), kx_upn (by omega)]; exact h1.2.1 j hj
set_option maxRecDepth 100000 in
theorem pr_feed {E : kv_V} (w0 : Int64) (a : Int32) : kx_ok2 E (kx_Rl kx_L) 90 169 [.long w0, .int a] := by
  intro g w i hR hi
  obtain ⟨F0, F1, s, t, m, K, hF0, hF1, hX, hM, hKB, hKe⟩ := kx_Rl_XMK hR
  obtain ⟨q0, hq0, hm0, hb0, hy0⟩ := kx_Rl_q hR
  have q := hR.1
  have b1 := hX.2.1.1
  have b2 := hM.2.1.1
  have a1 := hX.1.1
  have a2 := hX.1.2.1
  have a4 := hX.1.2.2.2
  have d1 := hX.2.1.2.2
  have d2 := hM.2.1.2
  obtain ⟨n0, n050, t1, t2, t3⟩ := hR.2.2.1.2.2.2.1
  by_cases ha : 1 ≤ a ∧ a ≤ 8
  · obtain ⟨n, hn1, hn8, rfl⟩ := kx_1n (N := 8) ha (by omega)
    by_cases hf : n0 + n ≤ 50
    · refine kx_two (by decide) (Nat.le_of_ble_eq_true rfl) (by decide) (Nat.le_of_ble_eq_true rfl) ?_
      refine kx_st 0 (pc' := 0) (L' := [some (.ref 0), some (.long w0), none, some (.int (nI n)), none]) (st' := []) (h' := kv_wd g w) rfl ?_
      refine kx_st 2 (pc' := 2) (L' := [some (.ref 0), some (.long w0), none, some (.int (nI n)), none]) (st' := [.int 1, .int (nI n)]) (h' := kv_wd g w) rfl ?_
      refine kx_bi (t := 11) rfl rfl (fun (h2 : nI n < 1) => ?_) (fun (h2 : ¬ (nI n < 1)) => ?_)
      · exact absurd h2 (Int32.not_lt.mpr ha.1)
      · refine kx_st 0 (pc' := 5) (L' := [some (.ref 0), some (.long w0), none, some (.int (nI n)), none]) (st' := []) (h' := kv_wd g w) rfl ?_
        refine kx_st 2 (pc' := 8) (L' := [some (.ref 0), some (.long w0), none, some (.int (nI n)), none]) (st' := [.int 8, .int (nI n)]) (h' := kv_wd g w) rfl ?_
        refine kx_bi (t := 17) rfl rfl (fun (h8 : nI n ≤ 8) => ?_) (fun (h8 : ¬ (nI n ≤ 8)) => ?_)
        · refine kx_st 6 (pc' := 28) (L' := [some (.ref 0), some (.long w0), none, some (.int (nI n)), none]) (st' := [.int 50, .int ((g 1 8) + (nI n))]) (h' := kv_wd g w) rfl ?_
          refine kx_bi (t := 37) rfl rfl (fun (h28 : (g 1 8) + (nI n) ≤ 50) => ?_) (fun (h28 : ¬ ((g 1 8) + (nI n) ≤ 50)) => ?_)
          · refine kx_st 2 (pc' := 40) (L' := [some (.ref 0), some (.long w0), none, some (.int (nI n)), some (.int 0)]) (st' := []) (h' := kv_wd g w) rfl ?_
            refine lp_xfeed (d := 898) w0 n0 n hn8 hf (fun g40 r40 => ?_) n 0 g (by omega) ⟨t1, fun _ _ => rfl, (kx_fd_0 _ _ _).symm, fun _ _ _ => rfl⟩
            refine ⟨_, _, _, rfl, rfl, ?_⟩
            refine kx_st 0 (pc' := 0) (L' := [some (.ref 65), some (.long w0), none, some (.int (nI n)), none]) (st' := []) (h' := kv_wd g40 w) rfl ?_
            refine kx_st 3 (pc' := 4) (L' := [some (.ref 65), some (.long w0), none, some (.int (nI n)), none]) (st' := [.int 8, .int 1, .int (nI n)]) (h' := kv_wd g40 w) rfl ?_
            refine kx_call (z := 130) (as := [.int (nI n), .int 1, .int 8]) (rest := []) (v := some (.int (kx_b (1 ≤ nI n ∧ nI n ≤ 8)))) (h1 := kv_wd g40 w) rfl (ev_in (d := 898) (nI n) 1 8) ?_
            refine kx_st 0 (pc' := 7) (L' := [some (.ref 65), some (.long w0), none, some (.int (nI n)), none]) (st' := [.int (kx_b (1 ≤ nI n ∧ nI n ≤ 8))]) (h' := kv_wd g40 w) rfl ?_
            refine kx_bn (t := 17) rfl rfl (fun (m7 : (1 ≤ nI n ∧ nI n ≤ 8)) => ?_) (fun (m7 : ¬ (1 ≤ nI n ∧ nI n ≤ 8)) => ?_)
            · refine kx_st 3 (pc' := 22) (L' := [some (.ref 65), some (.long w0), none, some (.int (nI n)), none]) (st' := [.int 4, .ref 66]) (h' := kv_wd g40 w) rfl ?_
              refine kx_ia (k := 4) rfl rfl (by decide) rfl (by decide) (by decide) ?_
              refine kx_st 3 (pc' := 27) (L' := [some (.ref 65), some (.long w0), none, some (.int (nI n)), none]) (st' := [.int 50, .int ((g40 66 4) + (nI n))]) (h' := kv_wd g40 w) rfl ?_
              refine kx_bi (t := 37) rfl rfl (fun (m27 : (g40 66 4) + (nI n) ≤ 50) => ?_) (fun (m27 : ¬ ((g40 66 4) + (nI n) ≤ 50)) => ?_)
              · refine kx_st 2 (pc' := 40) (L' := [some (.ref 65), some (.long w0), none, some (.int (nI n)), some (.int 0)]) (st' := []) (h' := kv_wd g40 w) rfl ?_
                refine lp_mfeed (d := 899) w0 n0 n hn8 hf (fun g41 r41 => ⟨rfl, _, _, rfl, ?_⟩) n 0 g40 (by omega) ⟨by rw [(r40.2.2.2 66 (by omega) (by omega))]; exact t2, fun j _ => by rw [kx_fd_0], fun _ _ => rfl⟩
                obtain ⟨v1, v2, v3⟩ := r41
                obtain ⟨x1, x2, x3, x4⟩ := r40
                have f : ∀ b, b ≠ 1 → b ≠ 12 → b ≠ 66 → g41 b = g b := fun b b1 b12 b66 => (v3 b b66).trans (x4 b b1 b12)
                have f1 : ∀ k, k ≠ 8 → g41 1 k = g 1 k := fun k hk => by rw [v3 1 (by omega)]; exact x2 k hk
                have f66 : ∀ j, j ≠ 4 → (j < 98 ∨ 148 ≤ j) → g41 66 j = g 66 j := fun j j4 hj => by rw [v2 j j4, x4 66 (by omega) (by omega)]; unfold kx_fd; rw [if_neg (by omega)]
                obtain ⟨Q, cu, ⟨H1, H2, H3, H4, H5, hz, l0, l1⟩, im, sh, tr, er⟩ := id hR
                refine kx_Rl_hn hR Q (fun b b1 b2 => f b (by omega) (by omega) (by omega)) (fun k _ => by rw [f 65 (by omega) (by omega) (by omega)]) ⟨by rw [f 6 (by omega) (by omega) (by omega)], by rw [f 9 (by omega) (by omega) (by omega)]⟩ ⟨?_, ?_, ?_, ?_, ?_, ?_, ?_, ?_⟩
                · exact kx_H1_cg (f1 0 (by omega)) (f1 1 (by omega)) (f1 4 (by omega)) (fun j hj => f66 j (by omega) (by omega)) (fun k c hk hc => by rw [kx_kn_at hk, kx_kn_at hk, f _ (by omega) (by omega) (by omega)]) H1
                · rw [f 3 (by omega) (by omega) (by omega), f 4 (by omega) (by omega) (by omega)]; exact kx_H2_cg (fun _ _ => rfl) (fun _ _ => rfl) (fun j hj => f66 j (by omega) (by omega)) H2
                · rw [f 2 (by omega) (by omega) (by omega)]; exact kx_H3_cg rfl (f66 0 (by omega) (by omega)) H3
                · refine ⟨n0 + n, hf, by rw [v3 1 (by omega)]; exact x1, v1, fun j hj => ?_⟩
                  rw [v3 12 (by omega), x3, v2 (98 + j) (by omega), x4 66 (by omega) (by omega)]
                  unfold kx_fd
                  by_cases hj0 : n0 ≤ j ∧ j < n0 + n
                  · rw [if_pos hj0, if_pos (by omega), show 98 + j - (98 + n0) = j - n0 by omega]
                    exact ⟨rfl, kx_byb w0 (j - n0) (by omega)⟩
                  · rw [if_neg hj0, if_neg (by omega)]
                    exact t3 j (by omega)
                · rw [f 13 (by omega) (by omega) (by omega)]; exact kx_H5_cg (f1 10 (by omega)) (fun _ _ => rfl) (fun j hj => f66 j (by omega) (by omega)) H5
                · rw [f1 11 (by omega), f66 1 (by omega) (by omega)]; exact hz
                · exact kx_L_cg (by rw [f 6 (by omega) (by omega) (by omega)]) (fun j _ => by rw [f 7 (by omega) (by omega) (by omega)]) (f66 6 (by omega) (by omega)) (fun j hj => f66 _ (by omega) (by omega)) l0
                · exact kx_L_cg (by rw [f 9 (by omega) (by omega) (by omega)]) (fun j _ => by rw [f 10 (by omega) (by omega) (by omega)]) (f66 7 (by omega) (by omega)) (fun j hj => f66 _ (by omega) (by omega)) l1
              · exact absurd (show g40 66 4 + nI n ≤ 50 by rw [(r40.2.2.2 66 (by omega) (by omega)), t2, kx_nadd]; exact ((nI_leI (a := n0 + n) (b := 50) (by omega) (by omega)).mpr hf)) m27
            · exact absurd ha m7
          · exact absurd (show g 1 8 + nI n ≤ 50 by rw [t1, kx_nadd]; exact ((nI_leI (a := n0 + n) (b := 50) (by omega) (by omega)).mpr hf)) h28
        · exact absurd ha.2 h8
    · refine kx_two (by decide) (Nat.le_of_ble_eq_true rfl) (by decide) (Nat.le_of_ble_eq_true rfl) ?_
      refine kx_st 0 (pc' := 0) (L' := [some (.ref 0), some (.long w0), none, some (.int (nI n)), none]) (st' := []) (h' := kv_wd g w) rfl ?_
      refine kx_st 2 (pc' := 2) (L' := [some (.ref 0), some (.long w0), none, some (.int (nI n)), none]) (st' := [.int 1, .int (nI n)]) (h' := kv_wd g w) rfl ?_
      refine kx_bi (t := 11) rfl rfl (fun (h2 : nI n < 1) => ?_) (fun (h2 : ¬ (nI n < 1)) => ?_)
      · exact absurd h2 (Int32.not_lt.mpr ha.1)
      · refine kx_st 0 (pc' := 5) (L' := [some (.ref 0), some (.long w0), none, some (.int (nI n)), none]) (st' := []) (h' := kv_wd g w) rfl ?_
        refine kx_st 2 (pc' := 8) (L' := [some (.ref 0), some (.long w0), none, some (.int (nI n)), none]) (st' := [.int 8, .int (nI n)]) (h' := kv_wd g w) rfl ?_
        refine kx_bi (t := 17) rfl rfl (fun (h8 : nI n ≤ 8) => ?_) (fun (h8 : ¬ (nI n ≤ 8)) => ?_)
        · refine kx_st 6 (pc' := 28) (L' := [some (.ref 0), some (.long w0), none, some (.int (nI n)), none]) (st' := [.int 50, .int ((g 1 8) + (nI n))]) (h' := kv_wd g w) rfl ?_
          refine kx_bi (t := 37) rfl rfl (fun (h28 : (g 1 8) + (nI n) ≤ 50) => ?_) (fun (h28 : ¬ ((g 1 8) + (nI n) ≤ 50)) => ?_)
          · exact absurd (show nI (n0 + n) ≤ nI 50 by have z : g 1 8 + nI n ≤ 50 := h28; rw [t1, kx_nadd] at z; exact z) (fun z => hf ((nI_leI (by omega) (by omega)).mp z))
          · refine kx_st 0 (pc' := 31) (L' := [some (.ref 0), some (.long w0), none, some (.int (nI n)), none]) (st' := []) (h' := kv_wd g w) rfl ?_
            refine kx_st 2 (pc' := 33) (L' := [some (.ref 0), some (.long w0), none, some (.int (nI n)), none]) (st' := [.int 4, .ref 0]) (h' := kv_wd g w) rfl ?_
            refine kx_call (z := 123) (as := [.ref 0, .int 4]) (rest := []) (v := some (.int (-1000000000 - nI 4))) (h1 := kv_wd (kv_up g 64 4 (g 64 4 + 1)) w) rfl (ev_error (d := 898) 4 (by decide) (by decide)) ?_
            refine kx_st 0 (pc' := 36) (L' := [some (.ref 0), some (.long w0), none, some (.int (nI n)), none]) (st' := [.int (-1000000000 - nI 4)]) (h' := kv_wd (kv_up g 64 4 (g 64 4 + 1)) w) rfl ?_
            refine kx_ret (v := some (.int (-1000000000 - nI 4))) rfl ?_
            refine ⟨_, _, _, rfl, rfl, ?_⟩
            refine kx_st 0 (pc' := 0) (L' := [some (.ref 65), some (.long w0), none, some (.int (nI n)), none]) (st' := []) (h' := kv_wd (kv_up g 64 4 (g 64 4 + 1)) w) rfl ?_
            refine kx_st 3 (pc' := 4) (L' := [some (.ref 65), some (.long w0), none, some (.int (nI n)), none]) (st' := [.int 8, .int 1, .int (nI n)]) (h' := kv_wd (kv_up g 64 4 (g 64 4 + 1)) w) rfl ?_
            refine kx_call (z := 130) (as := [.int (nI n), .int 1, .int 8]) (rest := []) (v := some (.int (kx_b (1 ≤ nI n ∧ nI n ≤ 8)))) (h1 := kv_wd (kv_up g 64 4 (g 64 4 + 1)) w) rfl (ev_in (d := 898) (nI n) 1 8) ?_
            refine kx_st 0 (pc' := 7) (L' := [some (.ref 65), some (.long w0), none, some (.int (nI n)), none]) (st' := [.int (kx_b (1 ≤ nI n ∧ nI n ≤ 8))]) (h' := kv_wd (kv_up g 64 4 (g 64 4 + 1)) w) rfl ?_
            refine kx_bn (t := 17) rfl rfl (fun (m7 : (1 ≤ nI n ∧ nI n ≤ 8)) => ?_) (fun (m7 : ¬ (1 ≤ nI n ∧ nI n ≤ 8)) => ?_)
            · refine kx_st 3 (pc' := 22) (L' := [some (.ref 65), some (.long w0), none, some (.int (nI n)), none]) (st' := [.int 4, .ref 66]) (h' := kv_wd (kv_up g 64 4 (g 64 4 + 1)) w) rfl ?_
              refine kx_ia (k := 4) rfl rfl (by decide) rfl (by decide) (by decide) ?_
              refine kx_st 3 (pc' := 27) (L' := [some (.ref 65), some (.long w0), none, some (.int (nI n)), none]) (st' := [.int 50, .int (((kv_up g 64 4 (g 64 4 + 1)) 66 4) + (nI n))]) (h' := kv_wd (kv_up g 64 4 (g 64 4 + 1)) w) rfl ?_
              refine kx_bi (t := 37) rfl rfl (fun (m27 : ((kv_up g 64 4 (g 64 4 + 1)) 66 4) + (nI n) ≤ 50) => ?_) (fun (m27 : ¬ (((kv_up g 64 4 (g 64 4 + 1)) 66 4) + (nI n) ≤ 50)) => ?_)
              · exact absurd (show nI (n0 + n) ≤ nI 50 by have z : g 66 4 + nI n ≤ 50 := m27; rw [t2, kx_nadd] at z; exact z) (fun z => hf ((nI_leI (by omega) (by omega)).mp z))
              · refine kx_st 0 (pc' := 30) (L' := [some (.ref 65), some (.long w0), none, some (.int (nI n)), none]) (st' := []) (h' := kv_wd (kv_up g 64 4 (g 64 4 + 1)) w) rfl ?_
                refine kx_st 2 (pc' := 33) (L' := [some (.ref 65), some (.long w0), none, some (.int (nI n)), none]) (st' := [.int (-1000000004), .ref 65]) (h' := kv_wd (kv_up g 64 4 (g 64 4 + 1)) w) rfl ?_
                refine kx_call (z := 131) (as := [.ref 65, .int (-1000000004)]) (rest := []) (v := some (.int (-1000000004))) (h1 := kv_wd (kv_up (kv_up g 64 4 (g 64 4 + 1)) 70 4 ((kv_up g 64 4 (g 64 4 + 1)) 70 4 + 1)) w) rfl (ev_errs (d := 898) (-1000000004) 4 (by decide) (by decide)) ?_
                refine kx_st 0 (pc' := 36) (L' := [some (.ref 65), some (.long w0), none, some (.int (nI n)), none]) (st' := [.int (-1000000004)]) (h' := kv_wd (kv_up (kv_up g 64 4 (g 64 4 + 1)) 70 4 ((kv_up g 64 4 (g 64 4 + 1)) 70 4 + 1)) w) rfl ?_
                refine kx_ret (v := some (.int (-1000000004))) rfl ?_
                exact ⟨rfl, _, _, rfl, kx_Rl_e hR⟩
            · exact absurd ha m7
        · exact absurd ha.2 h8
  · refine kx_two (by decide) (Nat.le_of_ble_eq_true rfl) (by decide) (Nat.le_of_ble_eq_true rfl) ?_
    refine kx_st 0 (pc' := 0) (L' := [some (.ref 0), some (.long w0), none, some (.int a), none]) (st' := []) (h' := kv_wd g w) rfl ?_
    refine kx_st 2 (pc' := 2) (L' := [some (.ref 0), some (.long w0), none, some (.int a), none]) (st' := [.int 1, .int a]) (h' := kv_wd g w) rfl ?_
    refine kx_bi (t := 11) rfl rfl (fun (h2 : a < 1) => ?_) (fun (h2 : ¬ (a < 1)) => ?_)
    · refine kx_st 2 (pc' := 13) (L' := [some (.ref 0), some (.long w0), none, some (.int a), none]) (st' := [.int 1, .ref 0]) (h' := kv_wd g w) rfl ?_
      refine kx_call (z := 123) (as := [.ref 0, .int 1]) (rest := []) (v := some (.int (-1000000000 - nI 1))) (h1 := kv_wd (kv_up g 64 1 (g 64 1 + 1)) w) rfl (ev_error (d := 898) 1 (by decide) (by decide)) ?_
      refine kx_st 0 (pc' := 16) (L' := [some (.ref 0), some (.long w0), none, some (.int a), none]) (st' := [.int (-1000000000 - nI 1)]) (h' := kv_wd (kv_up g 64 1 (g 64 1 + 1)) w) rfl ?_
      refine kx_ret (v := some (.int (-1000000000 - nI 1))) rfl ?_
      refine ⟨_, _, _, rfl, rfl, ?_⟩
      refine kx_st 0 (pc' := 0) (L' := [some (.ref 65), some (.long w0), none, some (.int a), none]) (st' := []) (h' := kv_wd (kv_up g 64 1 (g 64 1 + 1)) w) rfl ?_
      refine kx_st 3 (pc' := 4) (L' := [some (.ref 65), some (.long w0), none, some (.int a), none]) (st' := [.int 8, .int 1, .int a]) (h' := kv_wd (kv_up g 64 1 (g 64 1 + 1)) w) rfl ?_
      refine kx_call (z := 130) (as := [.int a, .int 1, .int 8]) (rest := []) (v := some (.int (kx_b (1 ≤ a ∧ a ≤ 8)))) (h1 := kv_wd (kv_up g 64 1 (g 64 1 + 1)) w) rfl (ev_in (d := 898) a 1 8) ?_
      refine kx_st 0 (pc' := 7) (L' := [some (.ref 65), some (.long w0), none, some (.int a), none]) (st' := [.int (kx_b (1 ≤ a ∧ a ≤ 8))]) (h' := kv_wd (kv_up g 64 1 (g 64 1 + 1)) w) rfl ?_
      refine kx_bn (t := 17) rfl rfl (fun (m7 : (1 ≤ a ∧ a ≤ 8)) => ?_) (fun (m7 : ¬ (1 ≤ a ∧ a ≤ 8)) => ?_)
      · exact absurd m7 ha
      · refine kx_st 0 (pc' := 10) (L' := [some (.ref 65), some (.long w0), none, some (.int a), none]) (st' := []) (h' := kv_wd (kv_up g 64 1 (g 64 1 + 1)) w) rfl ?_
        refine kx_st 2 (pc' := 13) (L' := [some (.ref 65), some (.long w0), none, some (.int a), none]) (st' := [.int (-1000000001), .ref 65]) (h' := kv_wd (kv_up g 64 1 (g 64 1 + 1)) w) rfl ?_
        refine kx_call (z := 131) (as := [.ref 65, .int (-1000000001)]) (rest := []) (v := some (.int (-1000000001))) (h1 := kv_wd (kv_up (kv_up g 64 1 (g 64 1 + 1)) 70 1 ((kv_up g 64 1 (g 64 1 + 1)) 70 1 + 1)) w) rfl (ev_errs (d := 898) (-1000000001) 1 (by decide) (by decide)) ?_
        refine kx_st 0 (pc' := 16) (L' := [some (.ref 65), some (.long w0), none, some (.int a), none]) (st' := [.int (-1000000001)]) (h' := kv_wd (kv_up (kv_up g 64 1 (g 64 1 + 1)) 70 1 ((kv_up g 64 1 (g 64 1 + 1)) 70 1 + 1)) w) rfl ?_
        refine kx_ret (v := some (.int (-1000000001))) rfl ?_
        exact ⟨rfl, _, _, rfl, kx_Rl_e hR⟩
    · refine kx_st 0 (pc' := 5) (L' := [some (.ref 0), some (.long w0), none, some (.int a), none]) (st' := []) (h' := kv_wd g w) rfl ?_
      refine kx_st 2 (pc' := 8) (L' := [some (.ref 0), some (.long w0), none, some (.int a), none]) (st' := [.int 8, .int a]) (h' := kv_wd g w) rfl ?_
      refine kx_bi (t := 17) rfl rfl (fun (h8 : a ≤ 8) => ?_) (fun (h8 : ¬ (a ≤ 8)) => ?_)
      · exact absurd ⟨Int32.not_lt.mp h2, h8⟩ ha
      · refine kx_st 0 (pc' := 11) (L' := [some (.ref 0), some (.long w0), none, some (.int a), none]) (st' := []) (h' := kv_wd g w) rfl ?_
        refine kx_st 2 (pc' := 13) (L' := [some (.ref 0), some (.long w0), none, some (.int a), none]) (st' := [.int 1, .ref 0]) (h' := kv_wd g w) rfl ?_
        refine kx_call (z := 123) (as := [.ref 0, .int 1]) (rest := []) (v := some (.int (-1000000000 - nI 1))) (h1 := kv_wd (kv_up g 64 1 (g 64 1 + 1)) w) rfl (ev_error (d := 898) 1 (by decide) (by decide)) ?_
        refine kx_st 0 (pc' := 16) (L' := [some (.ref 0), some (.long w0), none, some (.int a), none]) (st' := [.int (-1000000000 - nI 1)]) (h' := kv_wd (kv_up g 64 1 (g 64 1 + 1)) w) rfl ?_
        refine kx_ret (v := some (.int (-1000000000 - nI 1))) rfl ?_
        refine ⟨_, _, _, rfl, rfl, ?_⟩
        refine kx_st 0 (pc' := 0) (L' := [some (.ref 65), some (.long w0), none, some (.int a), none]) (st' := []) (h' := kv_wd (kv_up g 64 1 (g 64 1 + 1)) w) rfl ?_
        refine kx_st 3 (pc' := 4) (L' := [some (.ref 65), some (.long w0), none, some (.int a), none]) (st' := [.int 8, .int 1, .int a]) (h' := kv_wd (kv_up g 64 1 (g 64 1 + 1)) w) rfl ?_
        refine kx_call (z := 130) (as := [.int a, .int 1, .int 8]) (rest := []) (v := some (.int (kx_b (1 ≤ a ∧ a ≤ 8)))) (h1 := kv_wd (kv_up g 64 1 (g 64 1 + 1)) w) rfl (ev_in (d := 898) a 1 8) ?_
        refine kx_st 0 (pc' := 7) (L' := [some (.ref 65), some (.long w0), none, some (.int a), none]) (st' := [.int (kx_b (1 ≤ a ∧ a ≤ 8))]) (h' := kv_wd (kv_up g 64 1 (g 64 1 + 1)) w) rfl ?_
        refine kx_bn (t := 17) rfl rfl (fun (m7 : (1 ≤ a ∧ a ≤ 8)) => ?_) (fun (m7 : ¬ (1 ≤ a ∧ a ≤ 8)) => ?_)
        · exact absurd m7 ha
        · refine kx_st 0 (pc' := 10) (L' := [some (.ref 65), some (.long w0), none, some (.int a), none]) (st' := []) (h' := kv_wd (kv_up g 64 1 (g 64 1 + 1)) w) rfl ?_
          refine kx_st 2 (pc' := 13) (L' := [some (.ref 65), some (.long w0), none, some (.int a), none]) (st' := [.int (-1000000001), .ref 65]) (h' := kv_wd (kv_up g 64 1 (g 64 1 + 1)) w) rfl ?_
          refine kx_call (z := 131) (as := [.ref 65, .int (-1000000001)]) (rest := []) (v := some (.int (-1000000001))) (h1 := kv_wd (kv_up (kv_up g 64 1 (g 64 1 + 1)) 70 1 ((kv_up g 64 1 (g 64 1 + 1)) 70 1 + 1)) w) rfl (ev_errs (d := 898) (-1000000001) 1 (by decide) (by decide)) ?_
          refine kx_st 0 (pc' := 16) (L' := [some (.ref 65), some (.long w0), none, some (.int a), none]) (st' := [.int (-1000000001)]) (h' := kv_wd (kv_up (kv_up g 64 1 (g 64 1 + 1)) 70 1 ((kv_up g 64 1 (g 64 1 + 1)) 70 1 + 1)) w) rfl ?_
          refine kx_ret (v := some (.int (-1000000001))) rfl ?_
          exact ⟨rfl, _, _, rfl, kx_Rl_e hR⟩
