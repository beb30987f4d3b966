/-! WHAT RELATES class and reference; lr: a law's text, given later -/
abbrev kx_LR : Type := Nat → Int32 → (Nat → Int32) → Int32 → (Nat → Int32) → Prop
def kx_K (s k : Nat) (a b : Nat → Int32) : Prop := (∀ c, c < 9 → a c = b c) ∧ (∃ x, x ≤ 6 ∧ b 0 = nI x) ∧ (∃ x, x ≤ 9 ∧ b 1 = nI x) ∧ (∃ x z, x < s ∧ z < s ∧ x ≠ z ∧ b 2 = nI x ∧ b 3 = nI z) ∧ (∃ x, x ≤ 198 ∧ b 4 = nI x) ∧ (∃ x, x ≤ 999 ∧ b 5 = nI x) ∧ (b 6 = -1 ∨ ∃ u, u < k ∧ b 6 = nI u) ∧ (b 7 = 0 ∨ b 7 = 1) ∧ ∃ x, x ≤ 99 ∧ b 8 = nI x
/-- people, who is there, knots -/
def kx_H1 (h1 r : Nat → Int32) (kn : Nat → Nat → Int32) : Prop := ∃ s t m : Nat, (2 ≤ s ∧ s ≤ 6 ∧ t < 2 ^ s ∧ m ≤ 8) ∧ (h1 0 = nI s ∧ r 3 = nI s) ∧ (h1 1 = nI t ∧ ∀ p, p < s → r (20 + p) = if t.testBit p then 1 else 0) ∧ (h1 4 = nI m ∧ r 2 = nI m) ∧ ∀ k, k < m → kx_K s k (kn k) (fun c => r (26 + 9 * k + c))
def kx_H2 (lf rt r : Nat → Int32) : Prop := ∀ p, p < 6 → (lf p = r (8 + p) ∧ rt p = r (14 + p)) ∧ (r (20 + p) = 0 ∨ r (20 + p) = 1) ∧ (∃ x, x ≤ 99 ∧ r (8 + p) = nI x) ∧ ∃ x, x ≤ 99 ∧ r (14 + p) = nI x
def kx_H3 (hd r : Nat → Int32) : Prop := ∃ y, y ≤ 999 ∧ hd 2 = nI y ∧ r 0 = nI y
def kx_H4 (h1 tp r : Nat → Int32) : Prop := ∃ n, n ≤ 50 ∧ h1 8 = nI n ∧ r 4 = nI n ∧ ∀ j, j < n → tp j = r (98 + j) ∧ ∃ b, b ≤ 255 ∧ r (98 + j) = nI b
def kx_H5 (h1 wt r : Nat → Int32) : Prop := ∃ n, n ≤ 20 ∧ h1 10 = nI n ∧ r 5 = nI n ∧ ∀ j, j < n → wt j = r (148 + j)
/-- a house and a row -/
def kx_H (lr : kx_LR) (h1 hd lf rt : Nat → Int32) (kn : Nat → Nat → Int32) (l0 s0 l1 s1 tp wt r : Nat → Int32) : Prop :=
  kx_H1 h1 r kn ∧ kx_H2 lf rt r ∧ kx_H3 hd r ∧ kx_H4 h1 tp r ∧ kx_H5 h1 wt r ∧ h1 11 = r 1 ∧ lr 0 (l0 2) s0 (r 6) (fun j => r (168 + j)) ∧ lr 1 (l1 2) s1 (r 7) (fun j => r (218 + j))
def kx_Sh (a b : Nat → Int32) (x y : Int32) (f : Nat → Int32) : Prop := a 0 = x ∧ a 1 = y ∧ (∃ n, n ≤ 40 ∧ y = nI n) ∧ ∀ j, j < 40 → b j = f j
def kx_kn (g : kv_S) : Nat → Nat → Int32 := fun k => match k with
  | 0 => g 14
  | 1 => g 15
  | 2 => g 16
  | 3 => g 17
  | 4 => g 18
  | 5 => g 19
  | 6 => g 20
  | _ => g 21
def kx_kk (g : kv_S) : Nat → Nat → Int32 := fun k => match k with
  | 0 => g 35
  | 1 => g 36
  | 2 => g 37
  | 3 => g 38
  | 4 => g 39
  | 5 => g 40
  | 6 => g 41
  | _ => g 42
theorem kx_kn_at {g : kv_S} {k : Nat} (h : k < 8) : kx_kn g k = g (14 + k) := by
  rcases (show k = 0 ∨ k = 1 ∨ k = 2 ∨ k = 3 ∨ k = 4 ∨ k = 5 ∨ k = 6 ∨ k = 7 by omega) with rfl | rfl | rfl | rfl | rfl | rfl | rfl | rfl <;> rfl
theorem kx_kk_at {g : kv_S} {k : Nat} (h : k < 8) : kx_kk g k = g (35 + k) := by
  rcases (show k = 0 ∨ k = 1 ∨ k = 2 ∨ k = 3 ∨ k = 4 ∨ k = 5 ∨ k = 6 ∨ k = 7 by omega) with rfl | rfl | rfl | rfl | rfl | rfl | rfl | rfl <;> rfl
def kx_hn (lr : kx_LR) (g : kv_S) : Prop := kx_H lr (g 1) (g 2) (g 3) (g 4) (kx_kn g) (g 6) (g 7) (g 9) (g 10) (g 12) (g 13) (g 66)
def kx_hk (lr : kx_LR) (g : kv_S) : Prop := kx_H lr (g 22) (g 23) (g 24) (g 25) (kx_kk g) (g 27) (g 28) (g 30) (g 31) (g 33) (g 34) (g 67)
def kx_im (lr : kx_LR) (g : kv_S) (i : Nat) : Prop := ∃ n, n ≤ i ∧ g 0 2 = nI n ∧ g 65 5 = nI n ∧ ((n = 0 ∧ g 65 4 = 0) ∨ (0 < n ∧ g 65 4 = 1 ∧ kx_hk lr g))
def kx_sh (g : kv_S) : Prop := kx_Sh (g 56) (g 57) (g 71 0) (g 72 0) (fun j => g 73 (40 * 0 + j)) ∧ kx_Sh (g 58) (g 59) (g 71 1) (g 72 1) (fun j => g 73 (40 * 1 + j)) ∧ kx_Sh (g 60) (g 61) (g 71 2) (g 72 2) (fun j => g 73 (40 * 2 + j)) ∧ kx_Sh (g 62) (g 63) (g 71 3) (g 72 3) (fun j => g 73 (40 * 3 + j))
def kx_tr (g : kv_S) : Prop := ∃ n, n ≤ 40 ∧ g 53 1 = nI n ∧ g 65 20 = nI n ∧ ∀ j, j < n → g 54 j = g 75 j
def kx_er (g : kv_S) : Prop := ∀ k, k < 6 → g 64 k = g 70 k
def kx_cu (g : kv_S) : Prop := g 6 0 = 0 ∧ g 9 0 = 1 ∧ g 27 0 = 0 ∧ g 30 0 = 1
def kx_Rl (lr : kx_LR) (g : kv_S) (w : kv_W) (i : Nat) : Prop := kv_qok w ∧ kx_cu g ∧ kx_hn lr g ∧ kx_im lr g i ∧ kx_sh g ∧ kx_tr g ∧ kx_er g
theorem kx_Rl_skip (lr : kx_LR) (g : kv_S) (w : kv_W) (i : Nat) (h : kx_Rl lr g w i) : kx_Rl lr g w (i + 1) := by
  obtain ⟨h1, h2, h3, ⟨n, hn, h4⟩, h5⟩ := h
  exact ⟨h1, h2, h3, ⟨n, by omega, h4⟩, h5⟩
theorem kx_alq_s {g : kv_S} {a n : Nat} {x : Int32} (h : kx_alq g a n x = true) {k : Nat} (hk : k < n) : g a k = x := by
  have := List.all_eq_true.mp h k (List.mem_range.mpr hk)
  simpa using this
/-- at first -/
theorem kx_Rl_0 {lr : kx_LR} (h0 : ∀ sg tx, lr 0 0 sg (-1) tx) (h1 : ∀ sg tx, lr 1 0 sg (-1) tx) (g : kv_S) (w : kv_W) (h : kx_ini g w = true) : kx_Rl lr g w 0 := by
  unfold kx_ini at h
  simp only [Bool.and_eq_true, beq_iff_eq] at h
  obtain ⟨⟨⟨⟨⟨⟨⟨⟨⟨⟨⟨⟨⟨a1, a2⟩, a3⟩, a4⟩, a5⟩, a6⟩, a7⟩, a8⟩, a9⟩, ⟨⟨⟨⟨⟨⟨⟨b1, b2⟩, b3⟩, b4⟩, b5⟩, b6⟩, b7⟩, b8⟩⟩, ⟨⟨c1, c2⟩, c3⟩⟩, ⟨⟨⟨⟨⟨⟨d1, d2⟩, d3⟩, d4⟩, d5⟩, d6⟩, d7⟩⟩, e1⟩, ⟨⟨f1, f2⟩, f3⟩⟩ := h
  have row : ∀ j, j < 268 → g 66 j = (if j = 1 then 1 else if j = 3 then 4 else if j = 6 ∨ j = 7 then -1 else if 8 ≤ j ∧ j < 14 then 10 else if 14 ≤ j ∧ j < 20 then 20 else if 20 ≤ j ∧ j < 26 then 1 else 0) := by
    intro j hj
    have := List.all_eq_true.mp e1 j (List.mem_range.mpr hj)
    simpa using this
  have rl : ∀ p, p < 6 → g 66 (8 + p) = 10 := fun p hp => by rw [row _ (by omega), if_neg (by omega), if_neg (by omega), if_neg (by omega), if_pos (by omega)]
  have rr : ∀ p, p < 6 → g 66 (14 + p) = 20 := fun p hp => by rw [row _ (by omega), if_neg (by omega), if_neg (by omega), if_neg (by omega), if_neg (by omega), if_pos (by omega)]
  have rt : ∀ p, p < 6 → g 66 (20 + p) = 1 := fun p hp => by rw [row _ (by omega), if_neg (by omega), if_neg (by omega), if_neg (by omega), if_neg (by omega), if_neg (by omega), if_pos (by omega)]
  have r0 : g 66 0 = 0 := row 0 (by omega)
  have r1 : g 66 1 = 1 := row 1 (by omega)
  have r2 : g 66 2 = 0 := row 2 (by omega)
  have r3 : g 66 3 = 4 := row 3 (by omega)
  have r4 : g 66 4 = 0 := row 4 (by omega)
  have r5 : g 66 5 = 0 := row 5 (by omega)
  have r6 : g 66 6 = -1 := row 6 (by omega)
  have r7 : g 66 7 = -1 := row 7 (by omega)
  refine ⟨⟨fun j hj => ?_, fun j hj => ?_, fun j hj => ?_⟩, ⟨b2, b4, b6, b7⟩, ⟨?_, ?_, ?_, ?_, ?_, ?_, ?_, ?_⟩, ⟨0, Nat.le_refl _, b1, d2, Or.inl ⟨rfl, d1⟩⟩, ?_, ⟨0, by omega, c1, d3, fun j hj => by omega⟩, ?_⟩
  · have := List.all_eq_true.mp f1 j (List.mem_range.mpr hj); simpa using this
  · have := List.all_eq_true.mp f2 j (List.mem_range.mpr hj); simpa using this
  · have := List.all_eq_true.mp f3 j (List.mem_range.mpr hj); simpa using this
  · refine ⟨4, 15, 0, ⟨by omega, by omega, by omega, by omega⟩, ⟨a1, r3⟩, ⟨a2, fun p hp => ?_⟩, ⟨a3, r2⟩, fun k hk => by omega⟩
    rw [rt p (by omega)]
    rcases (show p = 0 ∨ p = 1 ∨ p = 2 ∨ p = 3 by omega) with rfl | rfl | rfl | rfl <;> rfl
  · intro p hp
    exact ⟨⟨by rw [rl p hp]; exact kx_alq_s a8 hp, by rw [rr p hp]; exact kx_alq_s a9 hp⟩, Or.inr (rt p hp), ⟨10, by omega, rl p hp⟩, ⟨20, by omega, rr p hp⟩⟩
  · exact ⟨0, by omega, a7, r0⟩
  · exact ⟨0, by omega, a4, r4, fun j hj => by omega⟩
  · exact ⟨0, by omega, a5, r5, fun j hj => by omega⟩
  · rw [a6, r1]
  · rw [b3, r6]; exact h0 _ _
  · rw [b5, r7]; exact h1 _ _
  · have one : ∀ s, s < 4 → kx_Sh (g (56 + 2 * s)) (g (57 + 2 * s)) (g 71 s) (g 72 s) (fun j => g 73 (40 * s + j)) := by
      intro s hs
      have := List.all_eq_true.mp c3 s (List.mem_range.mpr hs)
      simp only [Bool.and_eq_true, beq_iff_eq] at this
      obtain ⟨⟨q1, q2⟩, q3⟩ := this
      refine ⟨by rw [q1, kx_alq_s d5 hs], by rw [q2, kx_alq_s d6 hs], ⟨0, by omega, kx_alq_s d6 hs⟩, fun j hj => ?_⟩
      show g (57 + 2 * s) j = g 73 (40 * s + j)
      rw [kx_alq_s q3 hj, kx_alq_s d7 (show 40 * s + j < 160 by omega)]
    exact ⟨one 0 (by omega), one 1 (by omega), one 2 (by omega), one 3 (by omega)⟩
  · intro k hk
    rw [kx_alq_s c2 hk, kx_alq_s d4 hk]
-- an error on both sides
def kx_e2 (g : kv_S) (k : Nat) : kv_S := kv_up (kv_up g 64 k (g 64 k + 1)) 70 k (g 70 k + 1)
theorem kx_Rl_e {lr : kx_LR} {g : kv_S} {w : kv_W} {i k : Nat} (h : kx_Rl lr g w i) : kx_Rl lr (kx_e2 g k) w (i + 1) := by
  obtain ⟨h1, h2, h3, h4, h5, h6, h7⟩ := kx_Rl_skip lr g w i h
  refine ⟨h1, h2, h3, h4, h5, h6, fun j hj => ?_⟩
  show upd (g 64) k (g 64 k + 1) j = upd (g 70) k (g 70 k + 1) j
  unfold upd
  by_cases hjk : j = k
  · subst hjk
    rw [if_pos rfl, if_pos rfl, h7 j hj]
  · rw [if_neg hjk, if_neg hjk, h7 j hj]
