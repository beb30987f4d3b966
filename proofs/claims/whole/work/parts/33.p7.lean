/-! PAIRS: alike, holds, become -/
theorem kv_up_ne {g : kv_S} {a k b : Nat} {x : Int32} (h : b ≠ a) : kv_up g a k x b = g b := if_neg h
theorem kv_up_at {g : kv_S} {a k : Nat} {x : Int32} : kv_up g a k x a = upd (g a) k x := if_pos rfl
theorem kx_K_cg {s k : Nat} {a a' b b' : Nat → Int32} (ea : ∀ c, c < 9 → a' c = a c) (eb : ∀ c, c < 9 → b' c = b c) (h : kx_K s k a b) : kx_K s k a' b' := by
  obtain ⟨q1, q2, q3, q4, q5, q6, q7, q8, q9⟩ := h
  refine ⟨fun c hc => ?_, ?_, ?_, ?_, ?_, ?_, ?_, ?_, ?_⟩
  · rw [ea c hc, eb c hc]; exact q1 c hc
  · rw [eb 0 (by omega)]; exact q2
  · rw [eb 1 (by omega)]; exact q3
  · rw [eb 2 (by omega), eb 3 (by omega)]; exact q4
  · rw [eb 4 (by omega)]; exact q5
  · rw [eb 5 (by omega)]; exact q6
  · rw [eb 6 (by omega)]; exact q7
  · rw [eb 7 (by omega)]; exact q8
  · rw [eb 8 (by omega)]; exact q9
theorem kx_H1_knot {h1 r r' : Nat → Int32} {kn kn' : Nat → Nat → Int32} {k : Nat} (er : ∀ j, (2 ≤ j ∧ j ≤ 3) ∨ (20 ≤ j ∧ j < 98 ∧ (j < 26 + 9 * k ∨ 26 + 9 * k + 9 ≤ j)) → r' j = r j) (hk8 : k < 8) (ek : ∀ i c, i < 8 → c < 9 → i ≠ k → kn' i c = kn i c) (hK : ∀ s, kx_K s k (kn k) (fun c => r (26 + 9 * k + c)) → kx_K s k (kn' k) (fun c => r' (26 + 9 * k + c))) (h : kx_H1 h1 r kn) : kx_H1 h1 r' kn' := by
  obtain ⟨s, t, m, ⟨a1, a2, a3, a4⟩, ⟨b1, b2⟩, ⟨c1, c2⟩, ⟨d1, d2⟩, hk⟩ := h
  refine ⟨s, t, m, ⟨a1, a2, a3, a4⟩, ⟨b1, by rw [er 3 (by omega), b2]⟩, ⟨c1, fun p hp => by rw [er _ (by omega), c2 p hp]⟩, ⟨d1, by rw [er 2 (by omega), d2]⟩, fun i him => ?_⟩
  by_cases hik : i = k
  · subst hik; exact hK s (hk i him)
  · exact kx_K_cg (fun c hc => ek i c (by omega) hc hik) (fun c hc => er _ (by omega)) (hk i him)
theorem kx_d10 : ∀ n, n < 100 → nI n / 10 = nI (n / 10) ∧ nI n % 10 = nI (n % 10) := by decide +kernel
theorem kx_hs_congr {U U' T T' : Nat → Int32} {k : Int32} {n : Nat} (h : ∀ j, j < n → U j = U' j ∧ T j = T' j) : kx_hs U T k n = kx_hs U' T' k n := by
  induction n with
  | zero => rfl
  | succ n ih => rw [kx_hs, kx_hs, ih (fun j hj => h j (by omega)), (h n (by omega)).1, (h n (by omega)).2]
theorem kx_nI_inj {a b : Nat} (ha : a < 2 ^ 31) (hb : b < 2 ^ 31) (h : nI a = nI b) : a = b := by
  have := congrArg Int32.toInt h
  rw [nI_toInt ha, nI_toInt hb] at this
  omega
theorem kx_hs_lo {U T : Nat → Int32} {k : Nat} (hk8 : k < 8) : ∀ n, n ≤ k + 1 → (∀ j, j < n → U j = -1 ∨ ∃ u, u < j ∧ U j = nI u) → kx_hs U T (nI k) n = 0 := by
  intro n
  induction n with
  | zero => intro _ _; rfl
  | succ n ih =>
    intro hn hU
    rw [kx_hs, ih (by omega) (fun j hj => hU j (by omega)), if_neg]
    · rfl
    · rintro ⟨-, h0, h1⟩
      rcases hU n (by omega) with hu | ⟨u, hu, he⟩
      · rw [hu] at h0; exact absurd h0 (by decide)
      · rcases h1 with h1 | h1
        · rw [he] at h1
          have := kx_nI_inj (by omega) (by omega) h1
          omega
        · rw [he] at h1
          have key : ∀ u, u < 8 → ¬ ((0 : Int32) >>> (nI u &&& 31)) &&& 1 = 1 := by decide +kernel
          exact key u (by omega) h1
theorem kx_hs_hm {U T : Nat → Int32} {k : Nat} (hk8 : k < 8) : ∀ n, k + 1 ≤ n → (∀ j, j < n → U j = -1 ∨ ∃ u, u < j ∧ U j = nI u) → (∀ j, j < n → T j = 0 ∨ T j = 1) → kx_hs U T (nI k) n = kx_hm U T (nI k) (k + 1) n := by
  intro n
  induction n with
  | zero => intro h; omega
  | succ n ih =>
    intro hn hU hT
    by_cases hnk : n = k
    · subst hnk
      rw [kx_hm_0, kx_hs_lo hk8 _ (by omega) hU]
    · have e2 : kx_hm U T (nI k) (k + 1) (n + 1) = kx_hm U T (nI k) (k + 1) n ||| (if T n = 1 ∧ 0 ≤ U n ∧ (U n = nI k ∨ ((kx_hm U T (nI k) (k + 1) n >>> (U n &&& 31)) &&& 1) = 1) then 1 <<< (nI n &&& 31) else 0) := by
        rw [kx_hm, if_neg (show ¬ n < k + 1 by omega)]
      rw [kx_hs, e2, ih (by omega) (fun j hj => hU j (by omega)) (fun j hj => hT j (by omega))]
      have e : (¬ T n = 0) ↔ T n = 1 := by
        rcases hT n (by omega) with h | h <;> rw [h] <;> decide
      simp only [e]
section KP7
variable {E : kv_V} {lr : kx_LR}
theorem pr_alike : kx_ok2 E (kx_Rl lr) 105 196 [] := by
  intro g w i hR hi
  have hR1 := kx_Rl_skip lr g w i hR
  obtain ⟨q, -, ⟨⟨s, t, m, ⟨a1, a2, a3, a4⟩, -, -, ⟨d1, d2⟩, hk⟩, -⟩, -⟩ := hR
  refine ⟨_, g, w, g, w, ?_, kx_ev_le (d := 0 + 2) (by omega) (ev_m_alike (d := 0) m a4 d2), hR1⟩
  have hc := ev_x_alike (E := E) (d := 0) (g := g) (w := w) q m a4 d1
  have e : kx_sum (fun i => kx_sum (kx_alF (fun a => g (14 + a) 7) (fun a => g (14 + a) 4) i) i) m = kx_sum (fun i => kx_sum (kx_alM (fun a => g 66 (26 + 9 * a + 7)) (fun a => g 66 (26 + 9 * a + 4)) i) i) m := by
    refine kx_sum_congr (fun a ha => kx_sum_congr (fun b hb => ?_))
    have f : ∀ j, j < m → g (14 + j) 7 = g 66 (26 + 9 * j + 7) ∧ g (14 + j) 4 = g 66 (26 + 9 * j + 4) ∧ (g 66 (26 + 9 * j + 7) = 0 ∨ g 66 (26 + 9 * j + 7) = 1) := by
      intro j hj
      have h1 := hk j hj
      have h7 := h1.1 7 (by omega)
      have h4 := h1.1 4 (by omega)
      rw [kx_kn_at (by omega)] at h7 h4
      exact ⟨h7, h4, h1.2.2.2.2.2.2.2.1⟩
    obtain ⟨f1, f2, f3⟩ := f a ha
    obtain ⟨g1, g2, g3⟩ := f b (by omega)
    unfold kx_alF kx_alM
    refine kx_b_congr ?_
    dsimp only
    rw [f1, f2, g1, g2]
    have e1 : (¬ g 66 (26 + 9 * a + 7) = 0) ↔ g 66 (26 + 9 * a + 7) = 1 := by rcases f3 with h | h <;> rw [h] <;> decide
    have e2 : (¬ g 66 (26 + 9 * b + 7) = 0) ↔ g 66 (26 + 9 * b + 7) = 1 := by rcases g3 with h | h <;> rw [h] <;> decide
    rw [e1, e2]
  rw [← e]
  exact kx_ev_le (d := 0 + 1) (by omega) hc
theorem pr_holds (a : Int32) : kx_ok2 E (kx_Rl lr) 104 195 [.int a] := by
  intro g w i hR hi
  have hR0 := hR
  have hR1 := kx_Rl_skip lr g w i hR
  obtain ⟨q, -, ⟨⟨s, t, m, ⟨a1, a2, a3, a4⟩, -, -, ⟨d1, d2⟩, hk⟩, -⟩, -⟩ := hR
  by_cases hv : 0 ≤ a ∧ a < nI m
  · obtain ⟨k, hkm, rfl⟩ := kx_nIlt hv.1 hv.2 (by omega)
    refine ⟨_, g, w, g, w, ?_, kx_ev_le (d := 0 + 3) (by omega) (ev_m_holds (d := 0) k m a4 d2 hkm), hR1⟩
    have hc := ev_x_holds (E := E) (d := 0) (g := g) (w := w) q k m a4 d1 hkm
    have e : kx_hs (fun a => g (14 + a) 6) (fun a => g (14 + a) 7) (nI k) m = kx_hm (fun a => g 66 (26 + 9 * a + 6)) (fun a => g 66 (26 + 9 * a + 7)) (nI k) (k + 1) m := by
      rw [← kx_hs_hm (by omega) m (by omega) (fun j hj => (hk j hj).2.2.2.2.2.2.1) (fun j hj => (hk j hj).2.2.2.2.2.2.2.1)]
      refine kx_hs_congr (fun j hj => ?_)
      have h6 := (hk j hj).1 6 (by omega)
      have h7 := (hk j hj).1 7 (by omega)
      rw [kx_kn_at (by omega)] at h6 h7
      exact ⟨h6, h7⟩
    rw [← e]
    exact kx_ev_le (d := 0 + 2) (by omega) hc
  · exact ⟨-1000000001, _, w, kx_e2 g 1, w, kx_ev_le (d := 0 + 2) (by omega) (ev_x_holds_n (d := 0) a (by rw [d1]; exact hv)), kx_ev_le (d := 0 + 3) (by omega) (ev_m_holds_n (d := 0) a (by
      show ¬ (0 ≤ a ∧ a ≤ g 66 2 - 1)
      rw [d2]; exact fun z => hv ((kx_lt1 (by omega)).mp z))), kx_Rl_e hR0⟩
theorem pr_become (a b : Int32) : kx_ok2 E (kx_Rl lr) 88 152 [.int a, .int b] := by
  intro g w i hR hi
  have hR0 := hR
  obtain ⟨q, cu, ⟨H1, H2, H3, H4, H5, hz, l0, l1⟩, im, sh, tr, er⟩ := kx_Rl_skip lr g w i hR
  obtain ⟨s, t, m, ⟨a1, a2, a3, a4⟩, -, -, ⟨d1, d2⟩, hk⟩ := id H1
  by_cases hv : 0 ≤ a ∧ a < nI m
  · obtain ⟨k, hkm, rfl⟩ := kx_nIlt hv.1 hv.2 (by omega)
    have hk8 : k < 8 := by omega
    by_cases hb : 0 ≤ b ∧ b ≤ 69
    · obtain ⟨v, hv69, rfl⟩ := kx_nIof (n := 69) hb.1 hb.2 (by omega)
      obtain ⟨e10, e11⟩ := kx_d10 v (by omega)
      have g166 : kv_up (kv_up g (14 + k) 0 (nI v / 10)) (14 + k) 1 (nI v % 10) 66 = g 66 := by rw [kv_up_ne (by omega), kv_up_ne (by omega)]
      have e0 : g (14 + k) 0 = g 66 (26 + 9 * k) := by
        have := (hk k hkm).1 0 (by omega)
        rw [kx_kn_at (by omega)] at this
        exact this
      refine ⟨g 66 (26 + 9 * k), kv_up (kv_up g (14 + k) 0 (nI v / 10)) (14 + k) 1 (nI v % 10), w, kv_up (kv_up (kv_up (kv_up g (14 + k) 0 (nI v / 10)) (14 + k) 1 (nI v % 10)) 66 (26 + 9 * k + 1) (nI v % 10)) 66 (26 + 9 * k) (nI v / 10), w, ?_, ?_, ?_⟩
      · rw [← e0]
        exact kx_ev_le (d := 0 + 2) (by omega) (ev_x_become (d := 0) q k hk8 (by rw [d1]; exact hv.2) (nI v) hb)
      · have := ev_m_become (E := E) (d := 0) (g := kv_up (kv_up g (14 + k) 0 (nI v / 10)) (14 + k) 1 (nI v % 10)) (w := w) k hk8 (by rw [g166, d2]; exact (kx_lt1 (by omega)).mpr hv) (nI v) hb
        rw [show kv_up (kv_up g (14 + k) 0 (nI v / 10)) (14 + k) 1 (nI v % 10) 66 (26 + 9 * k) = g 66 (26 + 9 * k) from congrFun g166 _] at this
        exact kx_ev_le (d := 0 + 3) (by omega) this
      · have er' : ∀ j, j ≠ 26 + 9 * k → j ≠ 26 + 9 * k + 1 → kv_up (kv_up (kv_up (kv_up g (14 + k) 0 (nI v / 10)) (14 + k) 1 (nI v % 10)) 66 (26 + 9 * k + 1) (nI v % 10)) 66 (26 + 9 * k) (nI v / 10) 66 j = g 66 j := by
          intro j j1 j2
          rw [kv_up_at, kx_upn j1, kv_up_at, kx_upn j2, g166]
        have r0 : kv_up (kv_up (kv_up (kv_up g (14 + k) 0 (nI v / 10)) (14 + k) 1 (nI v % 10)) 66 (26 + 9 * k + 1) (nI v % 10)) 66 (26 + 9 * k) (nI v / 10) 66 (26 + 9 * k) = nI v / 10 := by rw [kv_up_at, kx_ups]
        have r1 : kv_up (kv_up (kv_up (kv_up g (14 + k) 0 (nI v / 10)) (14 + k) 1 (nI v % 10)) 66 (26 + 9 * k + 1) (nI v % 10)) 66 (26 + 9 * k) (nI v / 10) 66 (26 + 9 * k + 1) = nI v % 10 := by rw [kv_up_at, kx_upn (by omega), kv_up_at, kx_ups]
        have kn : ∀ i c, i < 8 → kx_kn (kv_up (kv_up (kv_up (kv_up g (14 + k) 0 (nI v / 10)) (14 + k) 1 (nI v % 10)) 66 (26 + 9 * k + 1) (nI v % 10)) 66 (26 + 9 * k) (nI v / 10)) i c = if i = k then (if c = 1 then nI v % 10 else if c = 0 then nI v / 10 else kx_kn g i c) else kx_kn g i c := by
          intro i c hi8
          rw [kx_kn_at hi8, kx_kn_at hi8, kv_up_ne (by omega), kv_up_ne (by omega)]
          by_cases hik : i = k
          · subst hik
            rw [if_pos rfl, kv_up_at, kv_up_at]
            rfl
          · rw [if_neg hik, kv_up_ne (by omega), kv_up_ne (by omega)]
        have hH1 := kx_H1_knot (r' := kv_up (kv_up (kv_up (kv_up g (14 + k) 0 (nI v / 10)) (14 + k) 1 (nI v % 10)) 66 (26 + 9 * k + 1) (nI v % 10)) 66 (26 + 9 * k) (nI v / 10) 66) (kn' := kx_kn (kv_up (kv_up (kv_up (kv_up g (14 + k) 0 (nI v / 10)) (14 + k) 1 (nI v % 10)) 66 (26 + 9 * k + 1) (nI v % 10)) 66 (26 + 9 * k) (nI v / 10))) (k := k) (fun j hj => er' j (by omega) (by omega)) hk8 (fun i c hi8 _ hik => by rw [kn i c hi8, if_neg hik]) (fun s hK => by
          obtain ⟨q1, -, -, q4, q5, q6, q7, q8, q9⟩ := hK
          dsimp only at q1 q4 q5 q6 q7 q8 q9
          refine ⟨fun c hc => ?_, ⟨v / 10, by omega, r0.trans e10⟩, ⟨v % 10, by omega, r1.trans e11⟩, ?_, ?_, ?_, ?_, ?_, ?_⟩
          · dsimp only
            rw [kn k c hk8, if_pos rfl]
            by_cases c1 : c = 1
            · subst c1; rw [if_pos rfl, r1]
            · rw [if_neg c1]
              by_cases c0 : c = 0
              · subst c0; rw [if_pos rfl]; exact r0.symm
              · rw [if_neg c0, er' _ (by omega) (by omega)]; exact q1 c hc
          · dsimp only; rw [er' _ (by omega) (by omega), er' _ (by omega) (by omega)]; exact q4
          · dsimp only; rw [er' _ (by omega) (by omega)]; exact q5
          · dsimp only; rw [er' _ (by omega) (by omega)]; exact q6
          · dsimp only; rw [er' _ (by omega) (by omega)]; exact q7
          · dsimp only; rw [er' _ (by omega) (by omega)]; exact q8
          · dsimp only; rw [er' _ (by omega) (by omega)]; exact q9) H1
        have hH2 := kx_H2_cg (lf' := g 3) (rt' := g 4) (fun _ _ => rfl) (fun _ _ => rfl) (fun j hj => er' j (by omega) (by omega)) H2
        have hH3 := kx_H3_cg (hd' := g 2) rfl (er' 0 (by omega) (by omega)) H3
        have hH4 := kx_H4_cg (h1' := g 1) (tp' := g 12) rfl (fun _ _ => rfl) (fun j hj => er' j (by omega) (by omega)) H4
        have hH5 := kx_H5_cg (h1' := g 1) (wt' := g 13) rfl (fun _ _ => rfl) (fun j hj => er' j (by omega) (by omega)) H5
        have hz' := hz
        rw [← er' 1 (by omega) (by omega)] at hz'
        have l0' := l0
        have l1' := l1
        rw [show (fun j => g 66 (168 + j)) = fun j => kv_up (kv_up (kv_up (kv_up g (14 + k) 0 (nI v / 10)) (14 + k) 1 (nI v % 10)) 66 (26 + 9 * k + 1) (nI v % 10)) 66 (26 + 9 * k) (nI v / 10) 66 (168 + j) from by funext j; rw [er' _ (by omega) (by omega)], ← er' 6 (by omega) (by omega)] at l0'
        rw [show (fun j => g 66 (218 + j)) = fun j => kv_up (kv_up (kv_up (kv_up g (14 + k) 0 (nI v / 10)) (14 + k) 1 (nI v % 10)) 66 (26 + 9 * k + 1) (nI v % 10)) 66 (26 + 9 * k) (nI v / 10) 66 (218 + j) from by funext j; rw [er' _ (by omega) (by omega)], ← er' 7 (by omega) (by omega)] at l1'
        clear er' r0 r1 kn g166
        rcases (show k = 0 ∨ k = 1 ∨ k = 2 ∨ k = 3 ∨ k = 4 ∨ k = 5 ∨ k = 6 ∨ k = 7 by omega) with rfl | rfl | rfl | rfl | rfl | rfl | rfl | rfl <;> exact ⟨q, cu, ⟨hH1, hH2, hH3, hH4, hH5, hz', l0', l1'⟩, im, sh, tr, er⟩
    · exact ⟨-1000000001, _, w, kx_e2 g 1, w, kx_ev_le (d := 0 + 2) (by omega) (ev_x_become_e (d := 0) q k hk8 (by rw [d1]; exact hv.2) b hb), kx_ev_le (d := 0 + 3) (by omega) (ev_m_become_e (d := 0) (nI k) b (by
        show 0 ≤ nI k ∧ nI k ≤ g 66 2 - 1
        rw [d2]; exact (kx_lt1 (by omega)).mpr hv) hb), kx_Rl_e hR0⟩
  · exact ⟨-1000000001, _, w, kx_e2 g 1, w, kx_ev_le (d := 0 + 2) (by omega) (ev_x_become_n (d := 0) a b (by rw [d1]; exact hv)), kx_ev_le (d := 0 + 3) (by omega) (ev_m_become_n (d := 0) a b (by
      show ¬ (0 ≤ a ∧ a ≤ g 66 2 - 1)
      rw [d2]; exact fun z => hv ((kx_lt1 (by omega)).mp z))), kx_Rl_e hR0⟩
end KP7
