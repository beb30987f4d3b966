/-! PAIRS of calls: seed, told, year, tell, trace; how a row's change leaves the rest -/
theorem kx_upn {r : Nat → Int32} {k j : Nat} {x : Int32} (h : j ≠ k) : upd r k x j = r j := if_neg h
theorem kx_ups {r : Nat → Int32} {k : Nat} {x : Int32} : upd r k x k = x := if_pos rfl
theorem kx_H1_cg {h1 h1' r r' : Nat → Int32} {kn kn' : Nat → Nat → Int32} (e0 : h1' 0 = h1 0) (e1 : h1' 1 = h1 1) (e4 : h1' 4 = h1 4) (er : ∀ j, (2 ≤ j ∧ j ≤ 3) ∨ (20 ≤ j ∧ j < 98) → r' j = r j) (ek : ∀ k c, k < 8 → c < 9 → kn' k c = kn k c) (h : kx_H1 h1 r kn) : kx_H1 h1' r' kn' := by
  obtain ⟨s, t, m, ⟨a1, a2, a3, a4⟩, ⟨b1, b2⟩, ⟨c1, c2⟩, ⟨d1, d2⟩, hk⟩ := h
  refine ⟨s, t, m, ⟨a1, a2, a3, a4⟩, ⟨by rw [e0, b1], by rw [er 3 (by omega), b2]⟩, ⟨by rw [e1, c1], fun p hp => by rw [er _ (by omega), c2 p hp]⟩, ⟨by rw [e4, d1], by rw [er 2 (by omega), d2]⟩, fun k hkm => ?_⟩
  have e : ∀ c, c < 9 → r' (26 + 9 * k + c) = r (26 + 9 * k + c) := fun c hc => er _ (by omega)
  obtain ⟨q1, q2, q3, q4, q5, q6, q7, q8, q9⟩ := hk k hkm
  dsimp only at q1 q2 q3 q4 q5 q6 q7 q8 q9
  refine ⟨fun c hc => ?_, ?_, ?_, ?_, ?_, ?_, ?_, ?_, ?_⟩ <;> dsimp only
  · rw [ek k c (by omega) hc, e c hc]; exact q1 c hc
  · rw [e 0 (by omega)]; exact q2
  · rw [e 1 (by omega)]; exact q3
  · rw [e 2 (by omega), e 3 (by omega)]; exact q4
  · rw [e 4 (by omega)]; exact q5
  · rw [e 5 (by omega)]; exact q6
  · rw [e 6 (by omega)]; exact q7
  · rw [e 7 (by omega)]; exact q8
  · rw [e 8 (by omega)]; exact q9
theorem kx_H2_cg {lf lf' rt rt' r r' : Nat → Int32} (el : ∀ p, p < 6 → lf' p = lf p) (et : ∀ p, p < 6 → rt' p = rt p) (er : ∀ j, 8 ≤ j ∧ j < 26 → r' j = r j) (h : kx_H2 lf rt r) : kx_H2 lf' rt' r' := by
  intro p hp
  rw [el p hp, et p hp, er (8 + p) (by omega), er (14 + p) (by omega), er (20 + p) (by omega)]
  exact h p hp
theorem kx_H3_cg {hd hd' r r' : Nat → Int32} (e : hd' 2 = hd 2) (er : r' 0 = r 0) (h : kx_H3 hd r) : kx_H3 hd' r' := by
  obtain ⟨y, h1, h2, h3⟩ := h
  exact ⟨y, h1, by rw [e, h2], by rw [er, h3]⟩
theorem kx_H4_cg {h1 h1' tp tp' r r' : Nat → Int32} (e : h1' 8 = h1 8) (et : ∀ j, j < 50 → tp' j = tp j) (er : ∀ j, j = 4 ∨ (98 ≤ j ∧ j < 148) → r' j = r j) (h : kx_H4 h1 tp r) : kx_H4 h1' tp' r' := by
  obtain ⟨n, a1, a2, a3, a4⟩ := h
  refine ⟨n, a1, by rw [e, a2], by rw [er 4 (by omega), a3], fun j hj => ?_⟩
  rw [et j (by omega), er (98 + j) (by omega)]
  exact a4 j hj
theorem kx_H5_cg {h1 h1' wt wt' r r' : Nat → Int32} (e : h1' 10 = h1 10) (et : ∀ j, j < 20 → wt' j = wt j) (er : ∀ j, j = 5 ∨ (148 ≤ j ∧ j < 168) → r' j = r j) (h : kx_H5 h1 wt r) : kx_H5 h1' wt' r' := by
  obtain ⟨n, a1, a2, a3, a4⟩ := h
  refine ⟨n, a1, by rw [e, a2], by rw [er 5 (by omega), a3], fun j hj => ?_⟩
  rw [et j (by omega), er (148 + j) (by omega)]
  exact a4 j hj
theorem kx_tx {r : Nat → Int32} {b k : Nat} {x : Int32} (h : k < b) : (fun j => upd r k x (b + j)) = fun j => r (b + j) := by
  funext j
  exact kx_upn (by omega)
section KP
variable {E : kv_V} {lr : kx_LR}
theorem pr_seed (a : Int32) : kx_ok2 E (kx_Rl lr) 109 202 [.int a] := by
  intro g w i hR hi
  obtain ⟨q, cu, ⟨H1, H2, H3, H4, H5, hz, l0, l1⟩, im, sh, tr, er⟩ := kx_Rl_skip lr g w i hR
  refine ⟨g 66 1, kv_up g 1 11 a, w, kv_up (kv_up g 1 11 a) 66 1 a, w, ?_, kx_ev_le (d := 0 + 1) (by omega) (ev_m_seed (d := 0) a), ?_⟩
  · rw [← hz]; exact kx_ev_le (d := 0 + 1) (by omega) (ev_x_seed (d := 0) a)
  · refine ⟨q, cu, ⟨?_, ?_, ?_, ?_, ?_, ?_, ?_, ?_⟩, im, sh, tr, er⟩
    · exact kx_H1_cg rfl rfl rfl (fun j hj => kx_upn (r := g 66) (by omega)) (fun _ _ _ _ => rfl) H1
    · exact kx_H2_cg (fun _ _ => rfl) (fun _ _ => rfl) (fun j hj => kx_upn (r := g 66) (by omega)) H2
    · exact kx_H3_cg rfl rfl H3
    · exact kx_H4_cg rfl (fun _ _ => rfl) (fun j hj => kx_upn (r := g 66) (by omega)) H4
    · exact kx_H5_cg rfl (fun _ _ => rfl) (fun j hj => kx_upn (r := g 66) (by omega)) H5
    · rfl
    · show lr 0 _ _ _ (fun j => upd (g 66) 1 a (168 + j)); rw [kx_tx (by omega)]; exact l0
    · show lr 1 _ _ _ (fun j => upd (g 66) 1 a (218 + j)); rw [kx_tx (by omega)]; exact l1
theorem kx_nIof {v : Int32} {n : Nat} (h0 : 0 ≤ v) (hn : v ≤ nI n) (hs : n < 2 ^ 31) : ∃ k, k ≤ n ∧ v = nI k := by
  have h1 := Int32.le_iff_toInt_le.mp h0
  have h2 := Int32.le_iff_toInt_le.mp hn
  rw [nI_toInt hs] at h2
  have h3 : (0 : Int32).toInt = 0 := rfl
  refine ⟨v.toInt.toNat, by omega, Int32.toInt_inj.mp ?_⟩
  rw [nI_toInt (by omega)]
  omega
theorem pr_told (a : Int32) : kx_ok2 E (kx_Rl lr) 122 221 [.int a] := by
  intro g w i hR hi
  by_cases hv : 1 ≤ a ∧ a ≤ 5
  · obtain ⟨k, hk, rfl⟩ := kx_nIof (n := 5) (v := a) (by have := hv.1; simp only [Int32.le_iff_toInt_le] at *; have h3 : (0 : Int32).toInt = 0 := rfl; have h4 : (1 : Int32).toInt = 1 := rfl; omega) hv.2 (by omega)
    have hk1 : 1 ≤ k := by
      have := Int32.le_iff_toInt_le.mp hv.1
      rw [nI_toInt (by omega), show (1 : Int32).toInt = 1 from rfl] at this
      omega
    obtain ⟨q, cu, hn, im, sh, tr, er⟩ := kx_Rl_skip lr g w i hR
    refine ⟨g 70 k, g, w, g, w, ?_, kx_ev_le (d := 0 + 2) (by omega) (ev_m_told (d := 0) k hk1 hk), ⟨q, cu, hn, im, sh, tr, er⟩⟩
    rw [← er k (by omega)]
    exact kx_ev_le (d := 0 + 2) (by omega) (ev_x_told (d := 0) k hk1 hk)
  · exact ⟨-1000000001, _, w, kx_e2 g 1, w, kx_ev_le (d := 0 + 2) (by omega) (ev_x_told_e (d := 0) a hv), kx_ev_le (d := 0 + 2) (by omega) (ev_m_told_e (d := 0) a hv), kx_Rl_e hR⟩
theorem pr_year (a : Int32) : kx_ok2 E (kx_Rl lr) 95 184 [.int a] := by
  intro g w i hR hi
  by_cases hv : 0 ≤ a ∧ a ≤ 999
  · obtain ⟨k, hk, hka⟩ := kx_nIof (n := 999) hv.1 hv.2 (by omega)
    obtain ⟨q, cu, ⟨H1, H2, ⟨y, y1, y2, y3⟩, H4, H5, hz, l0, l1⟩, im, sh, tr, er⟩ := kx_Rl_skip lr g w i hR
    refine ⟨g 66 0, kv_up g 2 2 a, w, kv_up (kv_up g 2 2 a) 66 0 a, w, ?_, kx_ev_le (d := 0 + 2) (by omega) (ev_m_year (d := 0) a hv), ?_⟩
    · rw [y3, ← y2]; exact kx_ev_le (d := 0 + 2) (by omega) (ev_x_year (d := 0) a hv)
    · refine ⟨q, cu, ⟨?_, ?_, ⟨k, hk, hka, hka⟩, ?_, ?_, hz, ?_, ?_⟩, im, sh, tr, er⟩
      · exact kx_H1_cg rfl rfl rfl (fun j hj => kx_upn (r := g 66) (by omega)) (fun _ _ _ _ => rfl) H1
      · exact kx_H2_cg (fun _ _ => rfl) (fun _ _ => rfl) (fun j hj => kx_upn (r := g 66) (by omega)) H2
      · exact kx_H4_cg rfl (fun _ _ => rfl) (fun j hj => kx_upn (r := g 66) (by omega)) H4
      · exact kx_H5_cg rfl (fun _ _ => rfl) (fun j hj => kx_upn (r := g 66) (by omega)) H5
      · show lr 0 _ _ _ (fun j => upd (g 66) 0 a (168 + j)); rw [kx_tx (by omega)]; exact l0
      · show lr 1 _ _ _ (fun j => upd (g 66) 0 a (218 + j)); rw [kx_tx (by omega)]; exact l1
  · exact ⟨-1000000001, _, w, kx_e2 g 1, w, kx_ev_le (d := 0 + 2) (by omega) (ev_x_year_e (d := 0) a hv), kx_ev_le (d := 0 + 2) (by omega) (ev_m_year_e (d := 0) a hv), kx_Rl_e hR⟩
theorem pr_tell (a : Int32) : kx_ok2 E (kx_Rl lr) 119 218 [.int a] := by
  intro g w i hR hi
  have hR0 := hR
  obtain ⟨q, cu, ⟨H1, H2, H3, H4, ⟨n, n1, n2, n3, n4⟩, hz, l0, l1⟩, im, sh, tr, er⟩ := kx_Rl_skip lr g w i hR
  by_cases hn : n < 20
  · have e1 : g 1 10 + 1 = nI (n + 1) := by rw [n2, ← nI_succ]
    have e2 : g 66 5 + 1 = nI (n + 1) := by rw [n3, ← nI_succ]
    refine ⟨nI (n + 1), kv_up (kv_up g 13 n a) 1 10 (g 1 10 + 1), w, kv_up (kv_up (kv_up (kv_up g 13 n a) 1 10 (g 1 10 + 1)) 66 (148 + n) a) 66 5 (g 66 5 + 1), w, ?_, ?_, ?_⟩
    · have := ev_x_tell (E := E) (d := 0) (g := g) (w := w) a n n2 hn
      rw [← e1]
      exact kx_ev_le (d := 0 + 2) (by omega) this
    · have := ev_m_tell (E := E) (d := 0) (g := kv_up (kv_up g 13 n a) 1 10 (g 1 10 + 1)) (w := w) a n n3 hn
      rw [← e2]
      exact kx_ev_le (d := 0 + 2) (by omega) this
    · have er' : ∀ j, j ≠ 5 → j ≠ 148 + n → kv_up (kv_up (kv_up (kv_up g 13 n a) 1 10 (g 1 10 + 1)) 66 (148 + n) a) 66 5 (g 66 5 + 1) 66 j = g 66 j := by
        intro j j1 j2
        show upd (upd (g 66) (148 + n) a) 5 (g 66 5 + 1) j = g 66 j
        rw [kx_upn j1, kx_upn j2]
      refine ⟨q, cu, ⟨?_, ?_, ?_, ?_, ⟨n + 1, by omega, e1, e2, fun j hj => ?_⟩, ?_, ?_, ?_⟩, im, sh, tr, er⟩
      · exact kx_H1_cg rfl rfl rfl (fun j hj => er' j (by omega) (by omega)) (fun _ _ _ _ => rfl) H1
      · exact kx_H2_cg (fun _ _ => rfl) (fun _ _ => rfl) (fun j hj => er' j (by omega) (by omega)) H2
      · exact kx_H3_cg rfl (er' 0 (by omega) (by omega)) H3
      · exact kx_H4_cg rfl (fun _ _ => rfl) (fun j hj => er' j (by omega) (by omega)) H4
      · show upd (g 13) n a j = upd (upd (g 66) (148 + n) a) 5 (g 66 5 + 1) (148 + j)
        rw [kx_upn (show 148 + j ≠ 5 by omega)]
        by_cases hjn : j = n
        · subst hjn; rw [kx_ups, kx_ups]
        · rw [kx_upn hjn, kx_upn (by omega)]; exact n4 j (by omega)
      · rw [er' 1 (by omega) (by omega)]; exact hz
      · have e : (fun j => kv_up (kv_up (kv_up (kv_up g 13 n a) 1 10 (g 1 10 + 1)) 66 (148 + n) a) 66 5 (g 66 5 + 1) 66 (168 + j)) = fun j => g 66 (168 + j) := by funext j; exact er' _ (by omega) (by omega)
        rw [e, er' 6 (by omega) (by omega)]; exact l0
      · have e : (fun j => kv_up (kv_up (kv_up (kv_up g 13 n a) 1 10 (g 1 10 + 1)) 66 (148 + n) a) 66 5 (g 66 5 + 1) 66 (218 + j)) = fun j => g 66 (218 + j) := by funext j; exact er' _ (by omega) (by omega)
        rw [e, er' 7 (by omega) (by omega)]; exact l1
  · have hn20 : n = 20 := by omega
    subst hn20
    exact ⟨-1000000004, _, w, kx_e2 g 4, w, kx_ev_le (d := 0 + 2) (by omega) (ev_x_tell_e (d := 0) a n2), kx_ev_le (d := 0 + 2) (by omega) (ev_m_tell_e (d := 0) a n3), kx_Rl_e hR0⟩
theorem kx_lt1 {v : Int32} {n : Nat} (hn : n < 2 ^ 30) : (0 ≤ v ∧ v ≤ nI n - 1) ↔ (0 ≤ v ∧ v < nI n) := by
  have h1 : (nI n - 1).toInt = (n : Int) - 1 := by
    rw [Int32.toInt_sub, nI_toInt (by omega), show (1 : Int32).toInt = 1 from rfl]
    simp only [Int.bmod]
    omega
  simp only [Int32.le_iff_toInt_le, Int32.lt_iff_toInt_lt, h1, nI_toInt (show n < 2 ^ 31 by omega)]
  omega
theorem kx_nIlt {v : Int32} {n : Nat} (h0 : 0 ≤ v) (hn : v < nI n) (hs : n < 2 ^ 31) : ∃ k, k < n ∧ v = nI k := by
  have h1 := Int32.le_iff_toInt_le.mp h0
  have h2 := Int32.lt_iff_toInt_lt.mp hn
  rw [nI_toInt hs] at h2
  have h3 : (0 : Int32).toInt = 0 := rfl
  refine ⟨v.toInt.toNat, by omega, Int32.toInt_inj.mp ?_⟩
  rw [nI_toInt (by omega)]
  omega
theorem pr_trace (a : Int32) : kx_ok2 E (kx_Rl lr) 111 209 [.int a] := by
  intro g w i hR hi
  have hR0 := hR
  obtain ⟨q, cu, hh, im, sh, ⟨n, n1, n2, n3, n4⟩, er⟩ := kx_Rl_skip lr g w i hR
  by_cases hv : 0 ≤ a ∧ a < nI n
  · obtain ⟨k, hk, rfl⟩ := kx_nIlt hv.1 hv.2 (by omega)
    refine ⟨g 75 k, g, w, g, w, ?_, kx_ev_le (d := 0 + 2) (by omega) (ev_m_trace (d := 0) k (by rw [n3]; exact (kx_lt1 (by omega)).mpr hv) (by omega)), ⟨q, cu, hh, im, sh, ⟨n, n1, n2, n3, n4⟩, er⟩⟩
    rw [← n4 k hk]
    exact kx_ev_le (d := 0 + 2) (by omega) (ev_x_trace (d := 0) k n n2 hk n1)
  · exact ⟨-1000000002, _, w, kx_e2 g 2, w, kx_ev_le (d := 0 + 2) (by omega) (ev_x_trace_e (d := 0) a (by rw [n2]; exact hv)), kx_ev_le (d := 0 + 2) (by omega) (ev_m_trace_e (d := 0) a (by
      show ¬ (0 ≤ a ∧ a ≤ g 65 20 - 1)
      rw [n3]; exact fun z => hv ((kx_lt1 (by omega)).mp z))), kx_Rl_e hR0⟩
end KP
