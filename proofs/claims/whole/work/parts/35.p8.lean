/-! PAIRS: put, sheet -/
theorem kx_sh_at {g : kv_S} (h : kx_sh g) {k : Nat} (hk : k < 4) : kx_Sh (g (56 + 2 * k)) (g (57 + 2 * k)) (g 71 k) (g 72 k) (fun j => g 73 (40 * k + j)) := by
  obtain ⟨h0, h1, h2, h3⟩ := h
  rcases (show k = 0 ∨ k = 1 ∨ k = 2 ∨ k = 3 by omega) with rfl | rfl | rfl | rfl
  · exact h0
  · exact h1
  · exact h2
  · exact h3
theorem kx_sh_of {g : kv_S} (h : ∀ k, k < 4 → kx_Sh (g (56 + 2 * k)) (g (57 + 2 * k)) (g 71 k) (g 72 k) (fun j => g 73 (40 * k + j))) : kx_sh g := ⟨h 0 (by omega), h 1 (by omega), h 2 (by omega), h 3 (by omega)⟩
theorem kx_four {k : Nat} (h : k < 4) : k = 0 ∨ k = 1 ∨ k = 2 ∨ k = 3 := by omega
section KP8
variable {E : kv_V} {lr : kx_LR}
theorem pr_put (a b c : Int32) : kx_ok2 E (kx_Rl lr) 113 212 [.int a, .int b, .int c] := by
  intro g w i hR hi
  have hR0 := hR
  obtain ⟨q, cu, hn, im, sh, tr, er⟩ := kx_Rl_skip lr g w i hR
  by_cases hv : 0 ≤ a ∧ a ≤ 3
  · obtain ⟨k, hk3, rfl⟩ := kx_nIof (n := 3) hv.1 hv.2 (by omega)
    have hk : k < 4 := by omega
    obtain ⟨s1, s2, ⟨n, n40, n2⟩, s4⟩ := kx_sh_at sh hk
    by_cases hb : g 71 k = 0
    · exact ⟨-1000000002, _, w, kx_e2 g 2, w, kx_ev_le (d := 0 + 2) (by omega) (ev_x_put_0 (d := 0) q k hk (by rw [s1]; exact hb) b c), kx_ev_le (d := 0 + 3) (by omega) (ev_m_put_0 (d := 0) (g := kv_up g 64 2 (g 64 2 + 1)) k hk hb b c), kx_Rl_e hR0⟩
    · by_cases hj : 0 ≤ b ∧ b < nI n
      · obtain ⟨j, hjn, rfl⟩ := kx_nIlt hj.1 hj.2 (by omega)
        have g171 : kv_up g (57 + 2 * k) j (kx_nw (g (56 + 2 * k) 0) c) 71 = g 71 := kv_up_ne (by omega)
        have g172 : kv_up g (57 + 2 * k) j (kx_nw (g (56 + 2 * k) 0) c) 72 = g 72 := kv_up_ne (by omega)
        refine ⟨1, kv_up g (57 + 2 * k) j (kx_nw (g (56 + 2 * k) 0) c), w, kv_up (kv_up g (57 + 2 * k) j (kx_nw (g (56 + 2 * k) 0) c)) 73 (40 * k + j) (kx_nw (kv_up g (57 + 2 * k) j (kx_nw (g (56 + 2 * k) 0) c) 71 k) c), w, kx_ev_le (d := 0 + 2) (by omega) (ev_x_put (d := 0) q k hk (by rw [s1]; exact hb) n j (by rw [s2]; exact n2) hjn n40 c), kx_ev_le (d := 0 + 3) (by omega) (ev_m_put (d := 0) k hk (by rw [g171]; exact hb) j (by rw [g172, n2]; exact (kx_lt1 (by omega)).mpr hj) (by omega) c), ?_⟩
        rw [g171]
        have hsh : kx_sh (kv_up (kv_up g (57 + 2 * k) j (kx_nw (g (56 + 2 * k) 0) c)) 73 (40 * k + j) (kx_nw (g 71 k) c)) := by
          refine kx_sh_of (fun s hs => ?_)
          obtain ⟨t1, t2, t3, t4⟩ := kx_sh_at sh hs
          rw [kv_up_ne (show 56 + 2 * s ≠ 73 by omega), kv_up_ne (show 56 + 2 * s ≠ 57 + 2 * k by omega), kv_up_ne (show 57 + 2 * s ≠ 73 by omega), kv_up_ne (show 71 ≠ 73 by omega), g171, kv_up_ne (show 72 ≠ 73 by omega), g172, kv_up_at, kv_up_ne (show 73 ≠ 57 + 2 * k by omega)]
          refine ⟨t1, t2, t3, fun i hi40 => ?_⟩
          dsimp only at t4 ⊢
          by_cases hsk : s = k
          · subst hsk
            rw [kv_up_at]
            by_cases hij : i = j
            · subst hij; rw [kx_ups, kx_ups, s1]
            · rw [kx_upn hij, kx_upn (by omega)]; exact t4 i hi40
          · rw [kv_up_ne (by omega), kx_upn (by omega)]; exact t4 i hi40
        clear g171 g172
        rcases kx_four hk with rfl | rfl | rfl | rfl <;> exact ⟨q, cu, hn, im, hsh, tr, er⟩
      · exact ⟨-1000000001, _, w, kx_e2 g 1, w, kx_ev_le (d := 0 + 2) (by omega) (ev_x_put_b (d := 0) q k hk (by rw [s1]; exact hb) b c (by rw [s2, n2]; exact hj)), kx_ev_le (d := 0 + 3) (by omega) (ev_m_put_b (d := 0) (g := kv_up g 64 1 (g 64 1 + 1)) k hk hb b c (by
          show ¬ (0 ≤ b ∧ b ≤ g 72 k - 1)
          rw [n2]; exact fun z => hj ((kx_lt1 (by omega)).mp z))), kx_Rl_e hR0⟩
  · exact ⟨-1000000001, _, w, kx_e2 g 1, w, kx_ev_le (d := 0 + 2) (by omega) (ev_x_put_n (d := 0) a b c hv), kx_ev_le (d := 0 + 3) (by omega) (ev_m_put_n (d := 0) a b c hv), kx_Rl_e hR0⟩
theorem kx_lay_sh {g : kv_S} {k : Nat} {b x : Int32} {n : Nat} (hk : k < 4) (hn : n ≤ 40) (hx : x = nI n) (sh : kx_sh g) : kx_sh (kx_laym (kx_lay g k b x) k b x) := by
  refine kx_sh_of (fun s hs => ?_)
  obtain ⟨t1, t2, t3, t4⟩ := kx_sh_at sh hs
  unfold kx_laym
  rw [kv_uf_ne (show 56 + 2 * s ≠ 73 by omega), kv_up_ne (show 56 + 2 * s ≠ 72 by omega), kv_up_ne (show 56 + 2 * s ≠ 71 by omega), kv_uf_ne (show 57 + 2 * s ≠ 73 by omega), kv_up_ne (show 57 + 2 * s ≠ 72 by omega), kv_up_ne (show 57 + 2 * s ≠ 71 by omega), kv_uf_ne (show 71 ≠ 73 by omega), kv_up_ne (show 71 ≠ 72 by omega), kv_up_at, kv_uf_ne (show 72 ≠ 73 by omega), kv_up_at, kv_up_ne (show 72 ≠ 71 by omega), kv_uf_self, kv_up_ne (show 73 ≠ 72 by omega), kv_up_ne (show 73 ≠ 71 by omega)]
  unfold kx_lay
  rw [kv_uf_ne (show 56 + 2 * s ≠ 57 + 2 * k by omega), kv_uf_ne (show 71 ≠ 57 + 2 * k by omega), kv_uf_ne (show 72 ≠ 57 + 2 * k by omega), kv_uf_ne (show 73 ≠ 57 + 2 * k by omega), kv_up_ne (show 71 ≠ 56 + 2 * k by omega), kv_up_ne (show 71 ≠ 56 + 2 * k by omega), kv_up_ne (show 72 ≠ 56 + 2 * k by omega), kv_up_ne (show 72 ≠ 56 + 2 * k by omega), kv_up_ne (show 73 ≠ 56 + 2 * k by omega), kv_up_ne (show 73 ≠ 56 + 2 * k by omega), kv_up_ne (show 57 + 2 * k ≠ 56 + 2 * k by omega), kv_up_ne (show 57 + 2 * k ≠ 56 + 2 * k by omega)]
  by_cases hsk : s = k
  · subst hsk
    rw [kv_up_at, kv_up_at, kv_uf_self, kx_ups, kx_ups]
    refine ⟨?_, kx_ups, ⟨n, hn, hx⟩, fun j hj => ?_⟩
    · rw [kx_upn (by omega), kx_ups]
    · show kx_mv (fun _ => 0) (g (57 + 2 * s)) 40 j = kx_ml (g 73) s 40 (40 * s + j)
      unfold kx_mv kx_ml
      rw [if_pos hj, if_pos (by omega)]
  · rw [kv_up_ne (show 56 + 2 * s ≠ 56 + 2 * k by omega), kv_up_ne (show 56 + 2 * s ≠ 56 + 2 * k by omega), kv_uf_ne (show 57 + 2 * s ≠ 57 + 2 * k by omega), kv_up_ne (show 57 + 2 * s ≠ 56 + 2 * k by omega), kv_up_ne (show 57 + 2 * s ≠ 56 + 2 * k by omega), kx_upn hsk, kx_upn hsk]
    refine ⟨t1, t2, t3, fun j hj => ?_⟩
    show g (57 + 2 * s) j = kx_ml (g 73) k 40 (40 * s + j)
    unfold kx_ml
    rw [if_neg (by omega)]
    exact t4 j hj
theorem pr_sheet (a b c : Int32) : kx_ok2 E (kx_Rl lr) 112 211 [.int a, .int b, .int c] := by
  intro g w i hR hi
  have hR0 := hR
  obtain ⟨q, cu, hn, im, sh, tr, er⟩ := kx_Rl_skip lr g w i hR
  by_cases hv : 0 ≤ a ∧ a ≤ 3
  · obtain ⟨k, hk3, rfl⟩ := kx_nIof (n := 3) hv.1 hv.2 (by omega)
    have hk : k < 4 := by omega
    have fin : ∀ (b x : Int32) (n : Nat), n ≤ 40 → x = nI n → kx_Rl lr (kx_laym (kx_lay g k b x) k b x) w (i + 1) := by
      intro b x n hn40 hx
      have hsh := kx_lay_sh (b := b) hk hn40 hx sh
      rcases kx_four hk with rfl | rfl | rfl | rfl <;> exact ⟨q, cu, hn, im, hsh, tr, er⟩
    by_cases h0 : b = 0
    · subst h0
      exact ⟨1, _, w, _, w, kx_ev_le (d := 0 + 2) (by omega) (ev_x_sheet0 (d := 0) q k hk c), kx_ev_le (d := 0 + 3) (by omega) (ev_m_sheet0 (d := 0) k hk c), fin 0 0 0 (by omega) rfl⟩
    · by_cases hb : b = 8 ∨ b = 16 ∨ b = 32
      · by_cases hc : c < 0
        · exact ⟨-1000000003, _, w, kx_e2 g 3, w, kx_ev_le (d := 0 + 2) (by omega) (ev_x_sheet_s (d := 0) q k hk b hb c hc), kx_ev_le (d := 0 + 3) (by omega) (ev_m_sheet_s (d := 0) k hk b hb c hc), kx_Rl_e hR0⟩
        · by_cases hc4 : c ≤ 40
          · obtain ⟨n, hn40, hx⟩ := kx_nIof (n := 40) (Int32.not_lt.mp hc) hc4 (by omega)
            exact ⟨1, _, w, _, w, kx_ev_le (d := 0 + 2) (by omega) (ev_x_sheet (d := 0) q k hk b hb c hc hc4), kx_ev_le (d := 0 + 3) (by omega) (ev_m_sheet (d := 0) k hk b hb c hc hc4), fin b c n hn40 hx⟩
          · exact ⟨-1000000001, _, w, kx_e2 g 1, w, kx_ev_le (d := 0 + 2) (by omega) (ev_x_sheet_b (d := 0) q k hk b hb c hc hc4), kx_ev_le (d := 0 + 3) (by omega) (ev_m_sheet_b (d := 0) k hk b hb c hc hc4), kx_Rl_e hR0⟩
      · have hb' : ¬ b = 0 ∧ ¬ b = 8 ∧ ¬ b = 16 ∧ ¬ b = 32 := ⟨h0, fun z => hb (Or.inl z), fun z => hb (Or.inr (Or.inl z)), fun z => hb (Or.inr (Or.inr z))⟩
        exact ⟨-1000000001, _, w, kx_e2 g 1, w, kx_ev_le (d := 0 + 2) (by omega) (ev_x_sheet_k (d := 0) q k hk b c hb'), kx_ev_le (d := 0 + 3) (by omega) (ev_m_sheet_k (d := 0) k hk b c hb'), kx_Rl_e hR0⟩
  · exact ⟨-1000000001, _, w, kx_e2 g 1, w, kx_ev_le (d := 0 + 2) (by omega) (ev_x_sheet_n (d := 0) a b c hv), kx_ev_le (d := 0 + 3) (by omega) (ev_m_sheet_n (d := 0) a b c hv), kx_Rl_e hR0⟩
end KP8
