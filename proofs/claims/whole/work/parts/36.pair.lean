/-! PAIRS walked as one: the class's frame, behind it the reference's -/
theorem kx_evP {E : kv_V} {d y : Nat} {h : kv_H} {as : List Value} {P : Option Value → kv_H → Prop} (hy : y < kv_nm) (ha : (kv_ar as).length ≤ kv_maxL y) (kk : kx_V E d y 0 (kv_in as (kv_maxL y)) [] h P) : ∃ r hf, kv_ev E (d + 1) y as h r hf ∧ P r hf := by
  obtain ⟨n, v, h', hr, hp⟩ := kk
  exact ⟨v, h', ⟨hy, ha, n, hr⟩, hp⟩
theorem kx_two {E : kv_V} {Rl : kv_S → kv_W → Nat → Prop} {yx ym i : Nat} {as : List Value} {g : kv_S} {w : kv_W} (hx : yx < kv_nm) (hxa : (kv_ar (.ref 0 :: as)).length ≤ kv_maxL yx) (hm : ym < kv_nm) (hma : (kv_ar (.ref 65 :: as)).length ≤ kv_maxL ym) (kk : kx_V E 899 yx 0 (kv_in (.ref 0 :: as) (kv_maxL yx)) [] (kv_wd g w) (fun v h => ∃ r g1 w1, v = some (.int r) ∧ h = kv_wd g1 w1 ∧ kx_V E 899 ym 0 (kv_in (.ref 65 :: as) (kv_maxL ym)) [] (kv_wd g1 w1) (fun v' h' => v' = some (.int r) ∧ ∃ g2 w2, h' = kv_wd g2 w2 ∧ Rl g2 w2 (i + 1)))) : ∃ (r : Int32) (g1 : kv_S) (w1 : kv_W) (g2 : kv_S) (w2 : kv_W), kv_ev E 900 yx (.ref 0 :: as) (kv_wd g w) (some (.int r)) (kv_wd g1 w1) ∧ kv_ev E 900 ym (.ref 65 :: as) (kv_wd g1 w1) (some (.int r)) (kv_wd g2 w2) ∧ Rl g2 w2 (i + 1) := by
  obtain ⟨v, hf, he, r, g1, w1, rfl, rfl, hk⟩ := kx_evP hx hxa kk
  obtain ⟨v', hf', he', rfl, g2, w2, rfl, hR⟩ := kx_evP hm hma hk
  exact ⟨r, g1, w1, g2, w2, he, he', hR⟩
theorem kx_Rl_hn {lr : kx_LR} {g g' : kv_S} {w w' : kv_W} {i : Nat} (h : kx_Rl lr g w i) (hw : kv_qok w') (e : ∀ b, (b = 0 ∨ (22 ≤ b ∧ b ≤ 42) ∨ (53 ≤ b ∧ b ≤ 64) ∨ b = 67 ∨ 70 ≤ b) → b ≠ 74 → g' b = g b) (e65 : ∀ k, k = 4 ∨ k = 5 ∨ k = 20 → g' 65 k = g 65 k) (cu : g' 6 0 = g 6 0 ∧ g' 9 0 = g 9 0) (hn : kx_hn lr g') : kx_Rl lr g' w' (i + 1) := by
  obtain ⟨h1, ⟨u1, u2, u3, u4⟩, h3, ⟨n, n1, n2, n3, n4⟩, h5, h6, h7⟩ := h
  have f : ∀ b, (b = 0 ∨ (22 ≤ b ∧ b ≤ 42) ∨ (53 ≤ b ∧ b ≤ 64) ∨ b = 67 ∨ 70 ≤ b) ∧ b ≠ 74 → g' b = g b := fun b hb => e b hb.1 hb.2
  refine ⟨hw, ⟨by rw [cu.1, u1], by rw [cu.2, u2], by rw [f 27 (by omega), u3], by rw [f 30 (by omega), u4]⟩, hn, ⟨n, by omega, by rw [f 0 (by omega), n2], by rw [e65 5 (by omega), n3], ?_⟩, ?_, ?_, ?_⟩
  · rcases n4 with ⟨z1, z2⟩ | ⟨z1, z2, z3⟩
    · exact Or.inl ⟨z1, by rw [e65 4 (by omega), z2]⟩
    · refine Or.inr ⟨z1, by rw [e65 4 (by omega), z2], ?_⟩
      unfold kx_hk at z3 ⊢
      rw [f 22 (by omega), f 23 (by omega), f 24 (by omega), f 25 (by omega), f 27 (by omega), f 28 (by omega), f 30 (by omega), f 31 (by omega), f 33 (by omega), f 34 (by omega), f 67 (by omega)]
      have ek : kx_kk g' = kx_kk g := by
        funext k
        unfold kx_kk
        split <;> exact f _ (by omega)
      rw [ek]
      exact z3
  · unfold kx_sh at h5 ⊢
    rw [f 56 (by omega), f 57 (by omega), f 58 (by omega), f 59 (by omega), f 60 (by omega), f 61 (by omega), f 62 (by omega), f 63 (by omega), f 71 (by omega), f 72 (by omega), f 73 (by omega)]
    exact h5
  · unfold kx_tr at h6 ⊢
    rw [f 53 (by omega), f 54 (by omega), f 75 (by omega), e65 20 (by omega)]
    exact h6
  · unfold kx_er at h7 ⊢
    rw [f 64 (by omega), f 70 (by omega)]
    exact h7
theorem kx_hn_mk {lr : kx_LR} {g g' : kv_S} (h : kx_hn lr g) (H1 : kx_H1 (g' 1) (g' 66) (kx_kn g')) (H2 : kx_H2 (g' 3) (g' 4) (g' 66)) (H3 : kx_H3 (g' 2) (g' 66)) (H4 : kx_H4 (g' 1) (g' 12) (g' 66)) (H5 : kx_H5 (g' 1) (g' 13) (g' 66)) (hz : g' 1 11 = g' 66 1) (el : g' 6 2 = g 6 2 ∧ g' 7 = g 7 ∧ g' 9 2 = g 9 2 ∧ g' 10 = g 10) (er : ∀ j, (j = 6 ∨ j = 7 ∨ 168 ≤ j) → g' 66 j = g 66 j) : kx_hn lr g' := by
  obtain ⟨-, -, -, -, -, -, l0, l1⟩ := h
  refine ⟨H1, H2, H3, H4, H5, hz, ?_, ?_⟩
  · rw [el.1, el.2.1, er 6 (by omega), show (fun j => g' 66 (168 + j)) = fun j => g 66 (168 + j) from funext fun j => er _ (by omega)]; exact l0
  · rw [el.2.2.1, el.2.2.2, er 7 (by omega), show (fun j => g' 66 (218 + j)) = fun j => g 66 (218 + j) from funext fun j => er _ (by omega)]; exact l1
section KB
variable {E : kv_V} {d : Nat} {g : kv_S} {w : kv_W}
theorem ev_isPersonS {s : Nat} (h : g 1 0 = nI s) (p : Int32) : kv_ev E (d + 1) 11 [.ref 1, .int p] (kv_wd g w) (some (.int (kx_b (0 ≤ p ∧ p < nI s)))) (kv_wd g w) := by
  have := ev_isPerson (E := E) (d := d) (g := g) (w := w) p
  rw [h] at this
  exact this
theorem ev_mPersonS {s : Nat} (h : g 66 3 = nI s) (hs : s ≤ 6) (p : Int32) : kv_ev E (d + 2) 138 [.ref 65, .int p] (kv_wd g w) (some (.int (kx_b (0 ≤ p ∧ p < nI s)))) (kv_wd g w) := by
  have := ev_mPerson (E := E) (d := d) (g := g) (w := w) p
  rw [h, kx_b_congr (kx_lt1 (by omega))] at this
  exact this
theorem ev_mKnotS {s : Nat} (h : g 66 2 = nI s) (hs : s ≤ 8) (p : Int32) : kv_ev E (d + 2) 139 [.ref 65, .int p] (kv_wd g w) (some (.int (kx_b (0 ≤ p ∧ p < nI s)))) (kv_wd g w) := by
  have := ev_mKnot (E := E) (d := d) (g := g) (w := w) p
  rw [h, kx_b_congr (kx_lt1 (by omega))] at this
  exact this
/-- two of s people -/
abbrev kx_pr (s : Nat) (p : Int32) : Prop := (0 ≤ p ∧ p ≤ 99) ∧ ¬ p / 10 = p % 10 ∧ (0 ≤ p / 10 ∧ p / 10 < nI s) ∧ (0 ≤ p % 10 ∧ p % 10 < nI s)
theorem kx_div10 {p : Int32} (h : 0 ≤ p) : (p / 10).toInt = p.toInt / 10 := by
  have h0 := Int32.le_iff_toInt_le.mp h
  have h3 : (0 : Int32).toInt = 0 := rfl
  have h1 := Int32.toInt_lt p
  rw [Int32.toInt_div, show (10 : Int32).toInt = 10 from rfl, Int.tdiv_eq_ediv_of_nonneg (by omega)]
  simp only [Int.bmod]
  omega
theorem ev_isPairS {s : Nat} (h : g 1 0 = nI s) (hs : s ≤ 6) (p : Int32) : kv_ev E (d + 2) 12 [.ref 1, .int p] (kv_wd g w) (some (.int (kx_b (kx_pr s p)))) (kv_wd g w) := by
  have := ev_isPair (E := E) (d := d) (g := g) (w := w) p
  rw [h, kx_b_congr (show _ ↔ kx_pr s p from ⟨fun q => ⟨⟨q.1, ?_⟩, q.2.2.2, q.2.1, q.2.2.1⟩, fun q => ⟨q.1.1, q.2.2.1, q.2.2.2, q.2.1⟩⟩)] at this
  · exact this
  · have h1 := q.2.1.2
    rw [Int32.lt_iff_toInt_lt, kx_div10 q.1, nI_toInt (by omega)] at h1
    rw [Int32.le_iff_toInt_le, show (99 : Int32).toInt = 99 from rfl]
    omega
theorem ev_mPairS {s : Nat} (h : g 66 3 = nI s) (hs : s ≤ 6) (p : Int32) : kv_ev E (d + 3) 140 [.ref 65, .int p] (kv_wd g w) (some (.int (kx_b (kx_pr s p)))) (kv_wd g w) := by
  have := ev_mPair (E := E) (d := d) (g := g) (w := w) p
  rw [h, kx_b_congr (show _ ↔ kx_pr s p from ⟨fun q => ⟨q.1, q.2.1, (kx_lt1 (by omega)).mp q.2.2.1, (kx_lt1 (by omega)).mp q.2.2.2⟩, fun q => ⟨q.1, q.2.1, (kx_lt1 (by omega)).mpr q.2.2.1, (kx_lt1 (by omega)).mpr q.2.2.2⟩⟩)] at this
  exact this
theorem kx_pr_of {s : Nat} {p : Int32} (hs : s ≤ 6) (h : kx_pr s p) : ∃ a b, a < s ∧ b < s ∧ a ≠ b ∧ p / 10 = nI a ∧ p % 10 = nI b ∧ p = nI (10 * a + b) := by
  obtain ⟨⟨h0, h9⟩, hne, ⟨x0, x1⟩, ⟨y0, y1⟩⟩ := h
  obtain ⟨k, hk, rfl⟩ := kx_nIof (n := 99) h0 h9 (by omega)
  obtain ⟨e1, e2⟩ := kx_d10 k (by omega)
  rw [e1] at x1 hne
  rw [e2] at y1 hne
  have f : ∀ a b : Nat, a < 2 ^ 31 → b < 2 ^ 31 → nI a < nI b → a < b := by
    intro a b ha hb hab
    rw [Int32.lt_iff_toInt_lt, nI_toInt ha, nI_toInt hb] at hab
    omega
  refine ⟨k / 10, k % 10, f _ _ (by omega) (by omega) x1, f _ _ (by omega) (by omega) y1, fun q => hne (by rw [q]), e1, e2, by rw [show 10 * (k / 10) + k % 10 = k by omega]⟩
theorem kx_tb : ∀ t, t < 64 → ∀ k, k < 6 → ((((nI t >>> (nI k &&& 31)) &&& 1) = 1) ↔ t.testBit k = true) := by decide +kernel
theorem kx_first (p : Nat → Prop) (n : Nat) : ∃ e, e ≤ n ∧ (∀ j, j < e → p j) ∧ (e = n ∨ ¬ p e) := by
  induction n with
  | zero => exact ⟨0, Nat.le_refl _, fun j hj => by omega, Or.inl rfl⟩
  | succ n ih =>
    obtain ⟨e, h1, h2, h3⟩ := ih
    rcases h3 with h3 | h3
    · subst h3
      by_cases h : p e
      · exact ⟨e + 1, Nat.le_refl _, fun j hj => by
          by_cases hj2 : j = e
          · rw [hj2]; exact h
          · exact h2 j (by omega), Or.inl rfl⟩
      · exact ⟨e, by omega, h2, Or.inr h⟩
    · exact ⟨e, by omega, h2, Or.inr h3⟩
end KB
