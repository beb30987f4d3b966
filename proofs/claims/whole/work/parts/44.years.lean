/-! LAWS AND YEARS: what a text gives, on both sides, as one function F -/
abbrev kx_FF : Type := Int32 → Int32 → Int32 → Int32
def kx_Lx (u : Nat) (F : kx_FF) (len : Int32) (sg : Nat → Int32) : Prop := ∀ (E : kv_V) (d : Nat) (g : kv_S) (w : kv_W) (a b c : Int32), g (6 + 3 * u) 0 = nI u → g (6 + 3 * u) 2 = len → (∀ j, j < 50 → g (7 + 3 * u) j = sg j) → ∃ f', kv_ev E (d + 5) 39 [.ref (6 + 3 * u), .int a, .int b, .int c] (kv_wd g w) (some (.int (F a b c))) (kv_wd (kv_uf g (8 + 3 * u) f') w)
def kx_Lm (u : Nat) (F : kx_FF) (sz : Int32) (tx : Nat → Int32) : Prop := ∀ (E : kv_V) (d : Nat) (g : kv_S) (w : kv_W) (a b c : Int32), g 66 (6 + u) = sz → (∀ j, j < 50 → g 66 (168 + 50 * u + j) = tx j) → ∃ f', (∀ k, (k < 7 ∨ 14 < k) → f' k = g 65 k) ∧ kv_ev E (d + 100) 167 [.ref 65, .int (nI u), .int a, .int b, .int c] (kv_wd g w) (some (.int (F a b c))) (kv_wd (kv_uf g 65 f') w)
def kx_LF (u : Nat) (F : kx_FF) : Prop := ∀ a b c, ∃ x, x ≤ (if u = 0 then 99 else 1) ∧ F a b c = nI x
def kx_L : kx_LR := fun u len sg sz tx => ∃ F : kx_FF, kx_LF u F ∧ kx_Lx u F len sg ∧ kx_Lm u F sz tx
theorem kx_Lx_cg {u : Nat} {F : kx_FF} {len len' : Int32} {sg sg' : Nat → Int32} (hl : len' = len) (e : ∀ j, j < 50 → sg' j = sg j) (h : kx_Lx u F len sg) : kx_Lx u F len' sg' := by
  subst hl
  intro E d g w a b c h1 h2 h3
  exact h E d g w a b c h1 h2 (fun j hj => (h3 j hj).trans (e j hj))
theorem kx_Lm_cg {u : Nat} {F : kx_FF} {sz sz' : Int32} {tx tx' : Nat → Int32} (hl : sz' = sz) (e : ∀ j, j < 50 → tx' j = tx j) (h : kx_Lm u F sz tx) : kx_Lm u F sz' tx' := by
  subst hl
  intro E d g w a b c h1 h2
  exact h E d g w a b c h1 (fun j hj => (h2 j hj).trans (e j hj))
theorem kx_L_cg {u : Nat} {len len' sz sz' : Int32} {sg sg' tx tx' : Nat → Int32} (hl : len' = len) (e : ∀ j, j < 50 → sg' j = sg j) (hl2 : sz' = sz) (e2 : ∀ j, j < 50 → tx' j = tx j) (h : kx_L u len sg sz tx) : kx_L u len' sg' sz' tx' := by
  obtain ⟨F, h1, h2, h3⟩ := h
  exact ⟨F, h1, kx_Lx_cg hl e h2, kx_Lm_cg hl2 e2 h3⟩
/-- a house and a row, held by their parts that count -/
theorem kx_H_cg {h1 h1' hd hd' lf lf' rt rt' l0 l0' s0 s0' l1 l1' s1 s1' tp tp' wt wt' r r' : Nat → Int32} {kn kn' : Nat → Nat → Int32} (e1 : ∀ k, k < 12 → h1' k = h1 k) (e2 : hd' 2 = hd 2) (e3 : ∀ k, k < 6 → lf' k = lf k) (e4 : ∀ k, k < 6 → rt' k = rt k) (ek : ∀ k c, k < 8 → c < 9 → kn' k c = kn k c) (e6 : l0' 2 = l0 2) (e7 : ∀ k, k < 50 → s0' k = s0 k) (e9 : l1' 2 = l1 2) (e10 : ∀ k, k < 50 → s1' k = s1 k) (e12 : ∀ k, k < 50 → tp' k = tp k) (e13 : ∀ k, k < 20 → wt' k = wt k) (er : ∀ j, j < 268 → r' j = r j) (h : kx_H kx_L h1 hd lf rt kn l0 s0 l1 s1 tp wt r) : kx_H kx_L h1' hd' lf' rt' kn' l0' s0' l1' s1' tp' wt' r' := by
  obtain ⟨H1, H2, H3, H4, H5, hz, L0, L1⟩ := h
  exact ⟨kx_H1_cg (e1 0 (by omega)) (e1 1 (by omega)) (e1 4 (by omega)) (fun j hj => er j (by omega)) ek H1, kx_H2_cg e3 e4 (fun j hj => er j (by omega)) H2, kx_H3_cg e2 (er 0 (by omega)) H3, kx_H4_cg (e1 8 (by omega)) e12 (fun j hj => er j (by omega)) H4, kx_H5_cg (e1 10 (by omega)) e13 (fun j hj => er j (by omega)) H5, by rw [e1 11 (by omega), er 1 (by omega)]; exact hz, kx_L_cg e6 e7 (er 6 (by omega)) (fun j hj => er _ (by omega)) L0, kx_L_cg e9 e10 (er 7 (by omega)) (fun j hj => er _ (by omega)) L1⟩
theorem kx_hn_cg {g g' : kv_S} (e : ∀ b, (b < 5 ∨ b = 6 ∨ b = 7 ∨ b = 9 ∨ b = 10 ∨ (11 < b ∧ b < 22)) → g' b = g b) (er : ∀ j, j < 268 → g' 66 j = g 66 j) (h : kx_hn kx_L g) : kx_hn kx_L g' := by
  unfold kx_hn at h ⊢
  rw [e 1 (by omega), e 2 (by omega), e 3 (by omega), e 4 (by omega), e 6 (by omega), e 7 (by omega), e 9 (by omega), e 10 (by omega), e 12 (by omega), e 13 (by omega)]
  exact kx_H_cg (fun _ _ => rfl) rfl (fun _ _ => rfl) (fun _ _ => rfl) (fun k c hk hc => by rw [kx_kn_at hk, kx_kn_at hk, e _ (by omega)]) rfl (fun _ _ => rfl) rfl (fun _ _ => rfl) (fun _ _ => rfl) (fun _ _ => rfl) er h
/-- what is only thought of: the relation stays -/
theorem kx_Rl_ro {g g' : kv_S} {w w' : kv_W} {i : Nat} (h : kx_Rl kx_L g w i) (hw : w'.2 = w.2) (e : ∀ b, b ≠ 8 → b ≠ 11 → (b < 44 ∨ 52 < b) → b ≠ 65 → b ≠ 66 → b ≠ 68 → b ≠ 69 → g' b = g b) (e65 : ∀ k, (k < 7 ∨ 14 < k) → g' 65 k = g 65 k) (e66 : ∀ j, j < 268 → g' 66 j = g 66 j) : kx_Rl kx_L g' w' i := by
  obtain ⟨h1, ⟨u1, u2, u3, u4⟩, h3, ⟨n, n1, n2, n3, n4⟩, h5, h6, h7⟩ := h
  have f : ∀ b, b ≠ 8 ∧ b ≠ 11 ∧ (b < 44 ∨ 52 < b) ∧ b ≠ 65 ∧ b ≠ 66 ∧ b ≠ 68 ∧ b ≠ 69 → g' b = g b := fun b hb => e b hb.1 hb.2.1 hb.2.2.1 hb.2.2.2.1 hb.2.2.2.2.1 hb.2.2.2.2.2.1 hb.2.2.2.2.2.2
  refine ⟨by unfold kv_qok at h1 ⊢; rw [hw]; exact h1, ⟨by rw [f 6 (by omega), u1], by rw [f 9 (by omega), u2], by rw [f 27 (by omega), u3], by rw [f 30 (by omega), u4]⟩, kx_hn_cg (fun b hb => f b (by omega)) e66 h3, ⟨n, n1, by rw [f 0 (by omega), n2], by rw [e65 5 (by omega), n3], ?_⟩, ?_, ?_, ?_⟩
  · rcases n4 with ⟨z1, z2⟩ | ⟨z1, z2, z3⟩
    · exact Or.inl ⟨z1, by rw [e65 4 (by omega), z2]⟩
    · refine Or.inr ⟨z1, by rw [e65 4 (by omega), z2], ?_⟩
      unfold kx_hk at z3 ⊢
      rw [f 22 (by omega), f 23 (by omega), f 24 (by omega), f 25 (by omega), f 27 (by omega), f 28 (by omega), f 30 (by omega), f 31 (by omega), f 33 (by omega), f 34 (by omega), f 67 (by omega)]
      have ek : kx_kk g' = kx_kk g := by
        funext k
        unfold kx_kk
        split <;> exact f _ (by omega)
      rw [ek]
      exact z3
  · unfold kx_sh at h5 ⊢
    rw [f 56 (by omega), f 57 (by omega), f 58 (by omega), f 59 (by omega), f 60 (by omega), f 61 (by omega), f 62 (by omega), f 63 (by omega), f 71 (by omega), f 72 (by omega), f 73 (by omega)]
    exact h5
  · unfold kx_tr at h6 ⊢
    rw [f 53 (by omega), f 54 (by omega), f 75 (by omega), e65 20 (by omega)]
    exact h6
  · unfold kx_er at h7 ⊢
    rw [f 64 (by omega), f 70 (by omega)]
    exact h7
/-- what stays while years go by: of the class, of the row -/
def kx_X (F0 F1 : kx_FF) (s t m : Nat) (K : Nat → Nat → Int32) (g : kv_S) : Prop := (2 ≤ s ∧ s ≤ 6 ∧ t < 2 ^ s ∧ m ≤ 8) ∧ (g 1 0 = nI s ∧ g 1 1 = nI t ∧ g 1 4 = nI m) ∧ (g 6 0 = 0 ∧ g 9 0 = 1) ∧ (kx_Lx 0 F0 (g 6 2) (g 7) ∧ kx_Lx 1 F1 (g 9 2) (g 10)) ∧ ∀ k, k < m → ∀ c, c < 9 → g (14 + k) c = K k c
def kx_M (F0 F1 : kx_FF) (s t m : Nat) (K : Nat → Nat → Int32) (r : Nat → Int32) : Prop := (2 ≤ s ∧ s ≤ 6 ∧ t < 2 ^ s ∧ m ≤ 8) ∧ (r 3 = nI s ∧ r 2 = nI m) ∧ (∀ p, p < s → r (20 + p) = if t.testBit p = true then 1 else 0) ∧ (kx_Lm 0 F0 (r 6) (fun j => r (168 + j)) ∧ kx_Lm 1 F1 (r 7) (fun j => r (218 + j))) ∧ ∀ k, k < m → ∀ c, c < 9 → r (26 + 9 * k + c) = K k c
theorem kx_X_cg {F0 F1 : kx_FF} {s t m : Nat} {K : Nat → Nat → Int32} {g g' : kv_S} (e : ∀ b, (b = 1 ∨ b = 6 ∨ b = 7 ∨ b = 9 ∨ b = 10 ∨ (13 < b ∧ b < 22)) → g' b = g b) (h : kx_X F0 F1 s t m K g) : kx_X F0 F1 s t m K g' := by
  obtain ⟨h0, h1, h2, h3, h4⟩ := h
  refine ⟨h0, by rw [e 1 (by omega)]; exact h1, by rw [e 6 (by omega), e 9 (by omega)]; exact h2, by rw [e 6 (by omega), e 9 (by omega), e 7 (by omega), e 10 (by omega)]; exact h3, fun k hk c hc => by rw [e (14 + k) (by omega)]; exact h4 k hk c hc⟩
theorem kx_M_cg {F0 F1 : kx_FF} {s t m : Nat} {K : Nat → Nat → Int32} {r r' : Nat → Int32} (e : ∀ j, (j < 8 ∨ 20 ≤ j) → 0 < j → j < 268 → r' j = r j) (h : kx_M F0 F1 s t m K r) : kx_M F0 F1 s t m K r' := by
  obtain ⟨h0, ⟨h1, h1'⟩, h2, ⟨h3, h3'⟩, h4⟩ := h
  refine ⟨h0, ⟨by rw [e 3 (by omega) (by omega) (by omega)]; exact h1, by rw [e 2 (by omega) (by omega) (by omega)]; exact h1'⟩, fun p hp => by rw [e _ (by omega) (by omega) (by omega)]; exact h2 p hp, ⟨kx_Lm_cg (e 6 (by omega) (by omega) (by omega)) (fun j hj => e _ (by omega) (by omega) (by omega)) h3, kx_Lm_cg (e 7 (by omega) (by omega) (by omega)) (fun j hj => e _ (by omega) (by omega) (by omega)) h3'⟩, fun k hk c hc => by rw [e _ (by omega) (by omega) (by omega)]; exact h4 k hk c hc⟩
/-- out of the relation -/
theorem kx_Rl_XM {g : kv_S} {w : kv_W} {i : Nat} (h : kx_Rl kx_L g w i) : ∃ (F0 F1 : kx_FF) (s t m : Nat), kx_LF 0 F0 ∧ kx_LF 1 F1 ∧ kx_X F0 F1 s t m (fun k c => g 66 (26 + 9 * k + c)) g ∧ kx_M F0 F1 s t m (fun k c => g 66 (26 + 9 * k + c)) (g 66) ∧ ∀ k, k < m → kx_K s k (fun c => g 66 (26 + 9 * k + c)) (fun c => g 66 (26 + 9 * k + c)) := by
  obtain ⟨q, ⟨u1, u2, -, -⟩, ⟨H1, H2, H3, H4, H5, hz, ⟨F0, x1, x2, x3⟩, ⟨F1, y1, y2, y3⟩⟩, -⟩ := h
  obtain ⟨s, t, m, ⟨a1, a2, a3, a4⟩, ⟨b1, b2⟩, ⟨c1, c2⟩, ⟨d1, d2⟩, hk⟩ := H1
  refine ⟨F0, F1, s, t, m, x1, y1, ⟨⟨a1, a2, a3, a4⟩, ⟨b1, c1, d1⟩, ⟨u1, u2⟩, ⟨x2, y2⟩, fun k hkm c hc => ?_⟩, ⟨⟨a1, a2, a3, a4⟩, ⟨b2, d2⟩, c2, ⟨x3, y3⟩, fun _ _ _ _ => rfl⟩, fun k hkm => ?_⟩
  · rw [← kx_kn_at (g := g) (show k < 8 by omega)]
    exact (hk k hkm).1 c hc
  · obtain ⟨q1, q2, q3, q4, q5, q6, q7, q8, q9⟩ := hk k hkm
    exact ⟨fun _ _ => rfl, q2, q3, q4, q5, q6, q7, q8, q9⟩
/-- hands in a year -/
abbrev kx_Q : Type := (Nat → Int32) × (Nat → Int32) × Nat
def kx_hq (lf rt : Nat → Int32) (hd : Int32) (q : kx_Q) : Prop := (∀ p, p < 6 → lf p = q.1 p ∧ rt p = q.2.1 p) ∧ hd = nI q.2.2
def kx_hmq (r : Nat → Int32) (q : kx_Q) : Prop := kx_hq (fun p => r (8 + p)) (fun p => r (14 + p)) (r 0) q
def kx_yi (F : kx_FF) (t : Nat) (c y : Int32) (f : Nat → Int32) (i : Nat) : Nat → Int32 := fun p => if p < i ∧ t.testBit p = true then F (f p) c y else f p
theorem kx_yi_0 (F : kx_FF) (t : Nat) (c y : Int32) (f : Nat → Int32) : kx_yi F t c y f 0 = f := by funext p; unfold kx_yi; rw [if_neg (by omega)]
theorem kx_yi_at (F : kx_FF) (t : Nat) (c y : Int32) (f : Nat → Int32) (i : Nat) : kx_yi F t c y f i i = f i := by unfold kx_yi; rw [if_neg (by omega)]
theorem kx_yi_1 {F : kx_FF} {t : Nat} {c y : Int32} {f : Nat → Int32} {i : Nat} (h : t.testBit i = true) (p : Nat) : kx_yi F t c y f (i + 1) p = if p = i then F (f i) c y else kx_yi F t c y f i p := by
  unfold kx_yi
  by_cases hp : p = i
  · subst hp; rw [if_pos ⟨by omega, h⟩, if_pos rfl]
  · rw [if_neg hp]
    have e : (p < i + 1 ∧ t.testBit p = true) ↔ (p < i ∧ t.testBit p = true) := ⟨fun z => ⟨by omega, z.2⟩, fun z => ⟨by omega, z.2⟩⟩
    simp only [e]
theorem kx_yi_n {F : kx_FF} {t : Nat} {c y : Int32} {f : Nat → Int32} {i : Nat} (h : ¬ t.testBit i = true) : kx_yi F t c y f (i + 1) = kx_yi F t c y f i := by
  funext p
  unfold kx_yi
  have e : (p < i + 1 ∧ t.testBit p = true) ↔ (p < i ∧ t.testBit p = true) := ⟨fun z => ⟨by
    have h1 := z.1
    have : p ≠ i := fun hp => h (hp ▸ z.2)
    omega, z.2⟩, fun z => ⟨by omega, z.2⟩⟩
  simp only [e]
theorem kx_yi_cg {F : kx_FF} {t : Nat} {c y : Int32} {f f' : Nat → Int32} {i p : Nat} (h : f' p = f p) : kx_yi F t c y f' i p = kx_yi F t c y f i p := by unfold kx_yi; rw [h]
def kx_yq (F : kx_FF) (s t : Nat) (q : kx_Q) : kx_Q := (kx_yi F t 0 (nI q.2.2 % 10) q.1 s, kx_yi F t 1 (nI q.2.2 % 10) q.2.1 s, q.2.2 + 1)
def kx_yn (F : kx_FF) (s t : Nat) : Nat → kx_Q → kx_Q
  | 0, q => q
  | n + 1, q => kx_yq F s t (kx_yn F s t n q)
def kx_qb (q : kx_Q) : Prop := ∀ p, p < 6 → (∃ x, x ≤ 99 ∧ q.1 p = nI x) ∧ ∃ x, x ≤ 99 ∧ q.2.1 p = nI x
theorem kx_qb_y {F : kx_FF} {s t : Nat} {q : kx_Q} (hF : kx_LF 0 F) (h : kx_qb q) : kx_qb (kx_yq F s t q) := by
  intro p hp
  constructor
  · show ∃ x, x ≤ 99 ∧ kx_yi F t 0 (nI q.2.2 % 10) q.1 s p = nI x
    unfold kx_yi
    split
    · exact hF _ _ _
    · exact (h p hp).1
  · show ∃ x, x ≤ 99 ∧ kx_yi F t 1 (nI q.2.2 % 10) q.2.1 s p = nI x
    unfold kx_yi
    split
    · exact hF _ _ _
    · exact (h p hp).2
theorem kx_qb_n {F : kx_FF} {s t : Nat} {q : kx_Q} (hF : kx_LF 0 F) (h : kx_qb q) : ∀ n, kx_qb (kx_yn F s t n q)
  | 0 => h
  | n + 1 => kx_qb_y hF (kx_qb_n hF h n)
theorem kx_yn_y {F : kx_FF} {s t : Nat} {q : kx_Q} : ∀ n, (kx_yn F s t n q).2.2 = q.2.2 + n
  | 0 => rfl
  | n + 1 => by show (kx_yn F s t n q).2.2 + 1 = _; rw [kx_yn_y n]; omega
section KLY
variable {E : kv_V} {d : Nat} {g : kv_S} {w : kv_W} {F0 F1 : kx_FF} {s t m : Nat} {K : Nat → Nat → Int32}
theorem ev_giv0 (h : kx_X F0 F1 s t m K g) (a b c : Int32) : ∃ f', kv_ev E (d + 5) 39 [.ref 6, .int a, .int b, .int c] (kv_wd g w) (some (.int (F0 a b c))) (kv_wd (kv_uf g 8 f') w) := h.2.2.2.1.1 E d g w a b c h.2.2.1.1 rfl (fun _ _ => rfl)
theorem ev_giv1 (h : kx_X F0 F1 s t m K g) (a b c : Int32) : ∃ f', kv_ev E (d + 5) 39 [.ref 9, .int a, .int b, .int c] (kv_wd g w) (some (.int (F1 a b c))) (kv_wd (kv_uf g 11 f') w) := h.2.2.2.1.2 E d g w a b c h.2.2.1.2 rfl (fun _ _ => rfl)
theorem ev_lawOf0 (h : kx_M F0 F1 s t m K (g 66)) (a b c : Int32) : ∃ f', (∀ k, (k < 7 ∨ 14 < k) → f' k = g 65 k) ∧ kv_ev E (d + 100) 167 [.ref 65, .int 0, .int a, .int b, .int c] (kv_wd g w) (some (.int (F0 a b c))) (kv_wd (kv_uf g 65 f') w) := h.2.2.2.1.1 E d g w a b c rfl (fun _ _ => rfl)
theorem ev_lawOf1 (h : kx_M F0 F1 s t m K (g 66)) (a b c : Int32) : ∃ f', (∀ k, (k < 7 ∨ 14 < k) → f' k = g 65 k) ∧ kv_ev E (d + 100) 167 [.ref 65, .int 1, .int a, .int b, .int c] (kv_wd g w) (some (.int (F1 a b c))) (kv_wd (kv_uf g 65 f') w) := h.2.2.2.1.2 E d g w a b c rfl (fun _ _ => rfl)
theorem ev_isThereT (h : kx_X F0 F1 s t m K g) (k : Nat) (hk : k < s) : kv_ev E (d + 2) 13 [.ref 1, .int (nI k)] (kv_wd g w) (some (.int (kx_b (t.testBit k = true)))) (kv_wd g w) := by
  have := ev_isThere (E := E) (d := d) (g := g) (w := w) (nI k)
  rw [h.2.1.1, h.2.1.2.1, kx_b_congr (kx_tv h.1.2.1 h.1.2.2.1 hk)] at this
  exact this
theorem ev_mThereT (h : kx_M F0 F1 s t m K (g 66)) (k : Nat) (hk : k < s) : kv_ev E (d + 1) 141 [.ref 65, .int (nI k)] (kv_wd g w) (some (.int (kx_b (t.testBit k = true)))) (kv_wd g w) := by
  have := ev_mThere (E := E) (d := d) (g := g) (w := w) k (by have := h.1; omega)
  rw [h.2.2.1 k hk] at this
  have e : ((if t.testBit k = true then (1 : Int32) else 0) = 1) ↔ t.testBit k = true := by
    by_cases hb : t.testBit k = true
    · rw [if_pos hb]; exact ⟨fun _ => hb, fun _ => rfl⟩
    · rw [if_neg hb]; exact ⟨fun z => absurd z (by decide), fun z => absurd z hb⟩
  rw [kx_b_congr e] at this
  exact this
end KLY
set_option maxRecDepth 100000 in
theorem lp_goAhead2 {E : kv_V} {d : Nat} {g : kv_S} {w : kv_W} {F0 F1 : kx_FF} {s t m : Nat} {K : Nat → Nat → Int32} (hX : kx_X F0 F1 s t m K g) (y0 : Int32) {P : Option Value → kv_H → Prop} (hP : ∀ g1 : kv_S, g1 3 = kx_yi F0 t 0 y0 (g 3) s → g1 4 = kx_yi F0 t 1 y0 (g 4) s → (∀ b, b ≠ 8 → b ≠ 3 → b ≠ 4 → g1 b = g b) → P none (kv_wd (kv_up g1 2 2 (g1 2 2 + 1)) w)) : ∀ (nz i : Nat) (g1 : kv_S), i + nz = s → g1 3 = kx_yi F0 t 0 y0 (g 3) i → g1 4 = kx_yi F0 t 1 y0 (g 4) i → (∀ b, b ≠ 8 → b ≠ 3 → b ≠ 4 → g1 b = g b) → kx_V E (d + 5) 7 10 [some (.ref 2), some (.ref 1), some (.int y0), some (.int (nI i))] [] (kv_wd g1 w) P := by
  have hs6 := hX.1.2.1
  intro nz
  induction nz with
  | zero =>
    intro i g1 hi h1 h2 h3
    have hkN : i = s := by omega
    have hX1 : kx_X F0 F1 s t m K g1 := kx_X_cg (fun b hb => h3 b (by omega) (by omega) (by omega)) hX
    refine kx_st 3 (pc' := 15) (L' := [some (.ref 2), some (.ref 1), some (.int y0), some (.int (nI i))]) (st' := [.int (g1 1 0), .int (nI i)]) (h' := kv_wd g1 w) rfl ?_
    refine kx_bi (t := 83) rfl rfl (fun (h15 : g1 1 0 ≤ nI i) => ?_) (fun (h15 : ¬ (g1 1 0 ≤ nI i)) => ?_)
    · refine kx_st 5 (pc' := 90) (L' := [some (.ref 2), some (.ref 1), some (.int y0), some (.int (nI i))]) (st' := [.int ((g1 2 2) + 1), .ref 2]) (h' := kv_wd g1 w) rfl ?_
      refine kx_pf (i := 18) (k := 2) (x := ((g1 2 2) + 1)) rfl rfl (by decide) rfl (Nat.le_of_ble_eq_true rfl) rfl rfl rfl ?_
      refine kx_ret (v := none) rfl ?_
      subst hkN
      exact hP g1 h1 h2 h3
    · exact absurd (by rw [hX1.2.1.1]; exact nI_le (by omega) (by omega)) h15
  | succ nz ih =>
    intro i g1 hi h1 h2 h3
    have hX1 : kx_X F0 F1 s t m K g1 := kx_X_cg (fun b hb => h3 b (by omega) (by omega) (by omega)) hX
    refine kx_st 3 (pc' := 15) (L' := [some (.ref 2), some (.ref 1), some (.int y0), some (.int (nI i))]) (st' := [.int (g1 1 0), .int (nI i)]) (h' := kv_wd g1 w) rfl ?_
    refine kx_bi (t := 83) rfl rfl (fun (h15 : g1 1 0 ≤ nI i) => ?_) (fun (h15 : ¬ (g1 1 0 ≤ nI i)) => ?_)
    · exact absurd h15 (by rw [hX1.2.1.1]; exact nI_ge (a := i) (b := s) (by omega) (by omega))
    · refine kx_st 0 (pc' := 18) (L' := [some (.ref 2), some (.ref 1), some (.int y0), some (.int (nI i))]) (st' := []) (h' := kv_wd g1 w) rfl ?_
      refine kx_st 4 (pc' := 24) (L' := [some (.ref 2), some (.ref 1), some (.int y0), some (.int (nI i))]) (st' := [.int 6, .int (nI i)]) (h' := kv_wd g1 w) rfl ?_
      refine kx_bi (t := 83) rfl rfl (fun (h24 : 6 ≤ nI i) => ?_) (fun (h24 : ¬ (6 ≤ nI i)) => ?_)
      · exact absurd h24 (nI_ge (a := i) (b := 6) (by omega) (by omega))
      · refine kx_st 0 (pc' := 27) (L' := [some (.ref 2), some (.ref 1), some (.int y0), some (.int (nI i))]) (st' := []) (h' := kv_wd g1 w) rfl ?_
        refine kx_st 2 (pc' := 29) (L' := [some (.ref 2), some (.ref 1), some (.int y0), some (.int (nI i))]) (st' := [.int (nI i), .ref 1]) (h' := kv_wd g1 w) rfl ?_
        refine kx_call (z := 13) (as := [.ref 1, .int (nI i)]) (rest := []) (v := some (.int (kx_b (t.testBit i = true)))) (h1 := kv_wd g1 w) rfl (ev_isThereT (d := d + 3) hX1 i (by omega)) ?_
        refine kx_st 0 (pc' := 32) (L' := [some (.ref 2), some (.ref 1), some (.int y0), some (.int (nI i))]) (st' := [.int (kx_b (t.testBit i = true))]) (h' := kv_wd g1 w) rfl ?_
        refine kx_be (t := 77) rfl rfl (fun (h32 : ¬ (t.testBit i = true)) => ?_) (fun (h32 : (t.testBit i = true)) => ?_)
        · refine kx_st 2 (pc' := 10) (L' := [some (.ref 2), some (.ref 1), some (.int y0), some (.int ((nI i) + 1))]) (st' := []) (h' := kv_wd g1 w) rfl ?_
          rw [← nI_succ]
          exact ih (i + 1) g1 (by omega) (by rw [h1, kx_yi_n h32]) (by rw [h2, kx_yi_n h32]) h3
        · refine kx_st 0 (pc' := 35) (L' := [some (.ref 2), some (.ref 1), some (.int y0), some (.int (nI i))]) (st' := []) (h' := kv_wd g1 w) rfl ?_
          refine kx_st 8 (pc' := 49) (L' := [some (.ref 2), some (.ref 1), some (.int y0), some (.int (nI i))]) (st' := [.int (nI i), .ref 3, .ref 6, .int (nI i), .ref 3]) (h' := kv_wd g1 w) rfl ?_
          refine kx_ia (k := i) rfl rfl (by decide) rfl (by omega) (by decide) ?_
          refine kx_st 2 (pc' := 52) (L' := [some (.ref 2), some (.ref 1), some (.int y0), some (.int (nI i))]) (st' := [.int y0, .int 0, .int (g1 3 i), .ref 6, .int (nI i), .ref 3]) (h' := kv_wd g1 w) rfl ?_
          obtain ⟨f52, e52⟩ := ev_giv0 (E := E) (d := d) (g := g1) (w := w) (kx_X_cg (fun b hb => rfl) hX1) (g1 3 i) 0 y0
          refine kx_call (z := 39) (as := [.ref 6, .int (g1 3 i), .int 0, .int y0]) (rest := [.int (nI i), .ref 3]) (v := some (.int (F0 (g1 3 i) 0 y0))) (h1 := kv_wd (kv_uf g1 8 f52) w) rfl e52 ?_
          refine kx_st 0 (pc' := 55) (L' := [some (.ref 2), some (.ref 1), some (.int y0), some (.int (nI i))]) (st' := [.int (F0 (g1 3 i) 0 y0), .int (nI i), .ref 3]) (h' := kv_wd (kv_uf g1 8 f52) w) rfl ?_
          refine kx_is (k := i) rfl rfl (by decide) rfl (by omega) (by decide) ?_
          refine kx_st 8 (pc' := 70) (L' := [some (.ref 2), some (.ref 1), some (.int y0), some (.int (nI i))]) (st' := [.int (nI i), .ref 4, .ref 6, .int (nI i), .ref 4]) (h' := kv_wd (kv_up (kv_uf g1 8 f52) 3 i (F0 (g1 3 i) 0 y0)) w) rfl ?_
          refine kx_ia (k := i) rfl rfl (by decide) rfl (by omega) (by decide) ?_
          refine kx_st 2 (pc' := 73) (L' := [some (.ref 2), some (.ref 1), some (.int y0), some (.int (nI i))]) (st' := [.int y0, .int 1, .int ((kv_up (kv_uf g1 8 f52) 3 i (F0 (g1 3 i) 0 y0)) 4 i), .ref 6, .int (nI i), .ref 4]) (h' := kv_wd (kv_up (kv_uf g1 8 f52) 3 i (F0 (g1 3 i) 0 y0)) w) rfl ?_
          obtain ⟨f73, e73⟩ := ev_giv0 (E := E) (d := d) (g := kv_up (kv_uf g1 8 f52) 3 i (F0 (g1 3 i) 0 y0)) (w := w) (kx_X_cg (fun b hb => (by show kv_up _ _ _ _ b = _; rw [kv_up_ne (by omega), kv_uf_ne (by omega)])) hX1) ((kv_up (kv_uf g1 8 f52) 3 i (F0 (g1 3 i) 0 y0)) 4 i) 1 y0
          refine kx_call (z := 39) (as := [.ref 6, .int ((kv_up (kv_uf g1 8 f52) 3 i (F0 (g1 3 i) 0 y0)) 4 i), .int 1, .int y0]) (rest := [.int (nI i), .ref 4]) (v := some (.int (F0 ((kv_up (kv_uf g1 8 f52) 3 i (F0 (g1 3 i) 0 y0)) 4 i) 1 y0))) (h1 := kv_wd (kv_uf (kv_up (kv_uf g1 8 f52) 3 i (F0 (g1 3 i) 0 y0)) 8 f73) w) rfl e73 ?_
          refine kx_st 0 (pc' := 76) (L' := [some (.ref 2), some (.ref 1), some (.int y0), some (.int (nI i))]) (st' := [.int (F0 ((kv_up (kv_uf g1 8 f52) 3 i (F0 (g1 3 i) 0 y0)) 4 i) 1 y0), .int (nI i), .ref 4]) (h' := kv_wd (kv_uf (kv_up (kv_uf g1 8 f52) 3 i (F0 (g1 3 i) 0 y0)) 8 f73) w) rfl ?_
          refine kx_is (k := i) rfl rfl (by decide) rfl (by omega) (by decide) ?_
          refine kx_st 2 (pc' := 10) (L' := [some (.ref 2), some (.ref 1), some (.int y0), some (.int ((nI i) + 1))]) (st' := []) (h' := kv_wd (kv_up (kv_uf (kv_up (kv_uf g1 8 f52) 3 i (F0 (g1 3 i) 0 y0)) 8 f73) 4 i (F0 ((kv_up (kv_uf g1 8 f52) 3 i (F0 (g1 3 i) 0 y0)) 4 i) 1 y0)) w) rfl ?_
          rw [← nI_succ]
          refine ih (i + 1) _ (by omega) ?_ ?_ ?_
          · funext p
            show upd (g1 3) i (F0 (g1 3 i) 0 y0) p = _
            rw [kx_yi_1 h32, h1, kx_yi_at]
            rfl
          · funext p
            show upd (g1 4) i (F0 (g1 4 i) 1 y0) p = _
            rw [kx_yi_1 h32, h2, kx_yi_at]
            rfl
          · intro b b1 b2 b3
            rw [kv_up_ne b3, kv_uf_ne b1, kv_up_ne b2, kv_uf_ne b1]
            exact h3 b b1 b2 b3
set_option maxRecDepth 100000 in
theorem ev_goAhead2 {E : kv_V} {d : Nat} {g : kv_S} {w : kv_W} {F0 F1 : kx_FF} {s t m : Nat} {K : Nat → Nat → Int32} (hX : kx_X F0 F1 s t m K g) (q : kx_Q) (hq : kx_hq (g 3) (g 4) (g 2 2) q) : ∃ g' : kv_S, kv_ev E (d + 6) 7 [.ref 2, .ref 1] (kv_wd g w) none (kv_wd g' w) ∧ kx_hq (g' 3) (g' 4) (g' 2 2) (kx_yq F0 s t q) ∧ ∀ b, b ≠ 8 → b ≠ 2 → b ≠ 3 → b ≠ 4 → g' b = g b := by
  have hs6 := hX.1.2.1
  obtain ⟨v, hf, he, rfl, g', rfl, hh⟩ := kx_evP (E := E) (d := d + 5) (y := 7) (h := kv_wd g w) (as := [.ref 2, .ref 1]) (P := fun v h => v = none ∧ ∃ g' : kv_S, h = kv_wd g' w ∧ kx_hq (g' 3) (g' 4) (g' 2 2) (kx_yq F0 s t q) ∧ ∀ b, b ≠ 8 → b ≠ 2 → b ≠ 3 → b ≠ 4 → g' b = g b) (by decide) (Nat.le_of_ble_eq_true rfl) (by
    refine kx_st 0 (pc' := 0) (L' := [some (.ref 2), some (.ref 1), none, none]) (st' := []) (h' := kv_wd g w) rfl ?_
    refine kx_st 3 (pc' := 6) (L' := [some (.ref 2), some (.ref 1), none, none]) (st' := [.int 10, .int (g 2 2)]) (h' := kv_wd g w) rfl ?_
    refine kx_rm rfl (by decide) ?_
    refine kx_st 3 (pc' := 10) (L' := [some (.ref 2), some (.ref 1), some (.int ((g 2 2) % 10)), some (.int 0)]) (st' := []) (h' := kv_wd g w) rfl ?_
    refine lp_goAhead2 hX _ (fun g1 h1 h2 h3 => ⟨rfl, _, rfl, ⟨fun p hp => ⟨?_, ?_⟩, ?_⟩, fun b b1 b2 b3 b4 => ?_⟩) s 0 g (by omega) (kx_yi_0 _ _ _ _ _).symm (kx_yi_0 _ _ _ _ _).symm (fun _ _ _ _ => rfl)
    · show g1 3 p = kx_yi F0 t 0 (nI q.2.2 % 10) q.1 s p
      rw [h1, hq.2]
      exact kx_yi_cg (hq.1 p hp).1
    · show g1 4 p = kx_yi F0 t 1 (nI q.2.2 % 10) q.2.1 s p
      rw [h2, hq.2]
      exact kx_yi_cg (hq.1 p hp).2
    · show g1 2 2 + 1 = nI (q.2.2 + 1)
      rw [h3 2 (by omega) (by omega) (by omega), hq.2, nI_succ]
    · rw [kv_up_ne b2]
      exact h3 b b1 b3 b4)
  exact ⟨g', he, hh⟩
set_option maxRecDepth 100000 in
theorem lp_goAhead44 {E : kv_V} {d : Nat} {g : kv_S} {w : kv_W} {F0 F1 : kx_FF} {s t m : Nat} {K : Nat → Nat → Int32} (hX : kx_X F0 F1 s t m K g) (y0 : Int32) {P : Option Value → kv_H → Prop} (hP : ∀ g1 : kv_S, g1 45 = kx_yi F0 t 0 y0 (g 45) s → g1 46 = kx_yi F0 t 1 y0 (g 46) s → (∀ b, b ≠ 8 → b ≠ 45 → b ≠ 46 → g1 b = g b) → P none (kv_wd (kv_up g1 44 2 (g1 44 2 + 1)) w)) : ∀ (nz i : Nat) (g1 : kv_S), i + nz = s → g1 45 = kx_yi F0 t 0 y0 (g 45) i → g1 46 = kx_yi F0 t 1 y0 (g 46) i → (∀ b, b ≠ 8 → b ≠ 45 → b ≠ 46 → g1 b = g b) → kx_V E (d + 5) 7 10 [some (.ref 44), some (.ref 1), some (.int y0), some (.int (nI i))] [] (kv_wd g1 w) P := by
  have hs6 := hX.1.2.1
  intro nz
  induction nz with
  | zero =>
    intro i g1 hi h1 h2 h3
    have hkN : i = s := by omega
    have hX1 : kx_X F0 F1 s t m K g1 := kx_X_cg (fun b hb => h3 b (by omega) (by omega) (by omega)) hX
    refine kx_st 3 (pc' := 15) (L' := [some (.ref 44), some (.ref 1), some (.int y0), some (.int (nI i))]) (st' := [.int (g1 1 0), .int (nI i)]) (h' := kv_wd g1 w) rfl ?_
    refine kx_bi (t := 83) rfl rfl (fun (h15 : g1 1 0 ≤ nI i) => ?_) (fun (h15 : ¬ (g1 1 0 ≤ nI i)) => ?_)
    · refine kx_st 5 (pc' := 90) (L' := [some (.ref 44), some (.ref 1), some (.int y0), some (.int (nI i))]) (st' := [.int ((g1 44 2) + 1), .ref 44]) (h' := kv_wd g1 w) rfl ?_
      refine kx_pf (i := 18) (k := 2) (x := ((g1 44 2) + 1)) rfl rfl (by decide) rfl (Nat.le_of_ble_eq_true rfl) rfl rfl rfl ?_
      refine kx_ret (v := none) rfl ?_
      subst hkN
      exact hP g1 h1 h2 h3
    · exact absurd (by rw [hX1.2.1.1]; exact nI_le (by omega) (by omega)) h15
  | succ nz ih =>
    intro i g1 hi h1 h2 h3
    have hX1 : kx_X F0 F1 s t m K g1 := kx_X_cg (fun b hb => h3 b (by omega) (by omega) (by omega)) hX
    refine kx_st 3 (pc' := 15) (L' := [some (.ref 44), some (.ref 1), some (.int y0), some (.int (nI i))]) (st' := [.int (g1 1 0), .int (nI i)]) (h' := kv_wd g1 w) rfl ?_
    refine kx_bi (t := 83) rfl rfl (fun (h15 : g1 1 0 ≤ nI i) => ?_) (fun (h15 : ¬ (g1 1 0 ≤ nI i)) => ?_)
    · exact absurd h15 (by rw [hX1.2.1.1]; exact nI_ge (a := i) (b := s) (by omega) (by omega))
    · refine kx_st 0 (pc' := 18) (L' := [some (.ref 44), some (.ref 1), some (.int y0), some (.int (nI i))]) (st' := []) (h' := kv_wd g1 w) rfl ?_
      refine kx_st 4 (pc' := 24) (L' := [some (.ref 44), some (.ref 1), some (.int y0), some (.int (nI i))]) (st' := [.int 6, .int (nI i)]) (h' := kv_wd g1 w) rfl ?_
      refine kx_bi (t := 83) rfl rfl (fun (h24 : 6 ≤ nI i) => ?_) (fun (h24 : ¬ (6 ≤ nI i)) => ?_)
      · exact absurd h24 (nI_ge (a := i) (b := 6) (by omega) (by omega))
      · refine kx_st 0 (pc' := 27) (L' := [some (.ref 44), some (.ref 1), some (.int y0), some (.int (nI i))]) (st' := []) (h' := kv_wd g1 w) rfl ?_
        refine kx_st 2 (pc' := 29) (L' := [some (.ref 44), some (.ref 1), some (.int y0), some (.int (nI i))]) (st' := [.int (nI i), .ref 1]) (h' := kv_wd g1 w) rfl ?_
        refine kx_call (z := 13) (as := [.ref 1, .int (nI i)]) (rest := []) (v := some (.int (kx_b (t.testBit i = true)))) (h1 := kv_wd g1 w) rfl (ev_isThereT (d := d + 3) hX1 i (by omega)) ?_
        refine kx_st 0 (pc' := 32) (L' := [some (.ref 44), some (.ref 1), some (.int y0), some (.int (nI i))]) (st' := [.int (kx_b (t.testBit i = true))]) (h' := kv_wd g1 w) rfl ?_
        refine kx_be (t := 77) rfl rfl (fun (h32 : ¬ (t.testBit i = true)) => ?_) (fun (h32 : (t.testBit i = true)) => ?_)
        · refine kx_st 2 (pc' := 10) (L' := [some (.ref 44), some (.ref 1), some (.int y0), some (.int ((nI i) + 1))]) (st' := []) (h' := kv_wd g1 w) rfl ?_
          rw [← nI_succ]
          exact ih (i + 1) g1 (by omega) (by rw [h1, kx_yi_n h32]) (by rw [h2, kx_yi_n h32]) h3
        · refine kx_st 0 (pc' := 35) (L' := [some (.ref 44), some (.ref 1), some (.int y0), some (.int (nI i))]) (st' := []) (h' := kv_wd g1 w) rfl ?_
          refine kx_st 8 (pc' := 49) (L' := [some (.ref 44), some (.ref 1), some (.int y0), some (.int (nI i))]) (st' := [.int (nI i), .ref 45, .ref 6, .int (nI i), .ref 45]) (h' := kv_wd g1 w) rfl ?_
          refine kx_ia (k := i) rfl rfl (by decide) rfl (by omega) (by decide) ?_
          refine kx_st 2 (pc' := 52) (L' := [some (.ref 44), some (.ref 1), some (.int y0), some (.int (nI i))]) (st' := [.int y0, .int 0, .int (g1 45 i), .ref 6, .int (nI i), .ref 45]) (h' := kv_wd g1 w) rfl ?_
          obtain ⟨f52, e52⟩ := ev_giv0 (E := E) (d := d) (g := g1) (w := w) (kx_X_cg (fun b hb => rfl) hX1) (g1 45 i) 0 y0
          refine kx_call (z := 39) (as := [.ref 6, .int (g1 45 i), .int 0, .int y0]) (rest := [.int (nI i), .ref 45]) (v := some (.int (F0 (g1 45 i) 0 y0))) (h1 := kv_wd (kv_uf g1 8 f52) w) rfl e52 ?_
          refine kx_st 0 (pc' := 55) (L' := [some (.ref 44), some (.ref 1), some (.int y0), some (.int (nI i))]) (st' := [.int (F0 (g1 45 i) 0 y0), .int (nI i), .ref 45]) (h' := kv_wd (kv_uf g1 8 f52) w) rfl ?_
          refine kx_is (k := i) rfl rfl (by decide) rfl (by omega) (by decide) ?_
          refine kx_st 8 (pc' := 70) (L' := [some (.ref 44), some (.ref 1), some (.int y0), some (.int (nI i))]) (st' := [.int (nI i), .ref 46, .ref 6, .int (nI i), .ref 46]) (h' := kv_wd (kv_up (kv_uf g1 8 f52) 45 i (F0 (g1 45 i) 0 y0)) w) rfl ?_
          refine kx_ia (k := i) rfl rfl (by decide) rfl (by omega) (by decide) ?_
          refine kx_st 2 (pc' := 73) (L' := [some (.ref 44), some (.ref 1), some (.int y0), some (.int (nI i))]) (st' := [.int y0, .int 1, .int ((kv_up (kv_uf g1 8 f52) 45 i (F0 (g1 45 i) 0 y0)) 46 i), .ref 6, .int (nI i), .ref 46]) (h' := kv_wd (kv_up (kv_uf g1 8 f52) 45 i (F0 (g1 45 i) 0 y0)) w) rfl ?_
          obtain ⟨f73, e73⟩ := ev_giv0 (E := E) (d := d) (g := kv_up (kv_uf g1 8 f52) 45 i (F0 (g1 45 i) 0 y0)) (w := w) (kx_X_cg (fun b hb => (by show kv_up _ _ _ _ b = _; rw [kv_up_ne (by omega), kv_uf_ne (by omega)])) hX1) ((kv_up (kv_uf g1 8 f52) 45 i (F0 (g1 45 i) 0 y0)) 46 i) 1 y0
          refine kx_call (z := 39) (as := [.ref 6, .int ((kv_up (kv_uf g1 8 f52) 45 i (F0 (g1 45 i) 0 y0)) 46 i), .int 1, .int y0]) (rest := [.int (nI i), .ref 46]) (v := some (.int (F0 ((kv_up (kv_uf g1 8 f52) 45 i (F0 (g1 45 i) 0 y0)) 46 i) 1 y0))) (h1 := kv_wd (kv_uf (kv_up (kv_uf g1 8 f52) 45 i (F0 (g1 45 i) 0 y0)) 8 f73) w) rfl e73 ?_
          refine kx_st 0 (pc' := 76) (L' := [some (.ref 44), some (.ref 1), some (.int y0), some (.int (nI i))]) (st' := [.int (F0 ((kv_up (kv_uf g1 8 f52) 45 i (F0 (g1 45 i) 0 y0)) 46 i) 1 y0), .int (nI i), .ref 46]) (h' := kv_wd (kv_uf (kv_up (kv_uf g1 8 f52) 45 i (F0 (g1 45 i) 0 y0)) 8 f73) w) rfl ?_
          refine kx_is (k := i) rfl rfl (by decide) rfl (by omega) (by decide) ?_
          refine kx_st 2 (pc' := 10) (L' := [some (.ref 44), some (.ref 1), some (.int y0), some (.int ((nI i) + 1))]) (st' := []) (h' := kv_wd (kv_up (kv_uf (kv_up (kv_uf g1 8 f52) 45 i (F0 (g1 45 i) 0 y0)) 8 f73) 46 i (F0 ((kv_up (kv_uf g1 8 f52) 45 i (F0 (g1 45 i) 0 y0)) 46 i) 1 y0)) w) rfl ?_
          rw [← nI_succ]
          refine ih (i + 1) _ (by omega) ?_ ?_ ?_
          · funext p
            show upd (g1 45) i (F0 (g1 45 i) 0 y0) p = _
            rw [kx_yi_1 h32, h1, kx_yi_at]
            rfl
          · funext p
            show upd (g1 46) i (F0 (g1 46 i) 1 y0) p = _
            rw [kx_yi_1 h32, h2, kx_yi_at]
            rfl
          · intro b b1 b2 b3
            rw [kv_up_ne b3, kv_uf_ne b1, kv_up_ne b2, kv_uf_ne b1]
            exact h3 b b1 b2 b3
set_option maxRecDepth 100000 in
theorem ev_goAhead44 {E : kv_V} {d : Nat} {g : kv_S} {w : kv_W} {F0 F1 : kx_FF} {s t m : Nat} {K : Nat → Nat → Int32} (hX : kx_X F0 F1 s t m K g) (q : kx_Q) (hq : kx_hq (g 45) (g 46) (g 44 2) q) : ∃ g' : kv_S, kv_ev E (d + 6) 7 [.ref 44, .ref 1] (kv_wd g w) none (kv_wd g' w) ∧ kx_hq (g' 45) (g' 46) (g' 44 2) (kx_yq F0 s t q) ∧ ∀ b, b ≠ 8 → b ≠ 44 → b ≠ 45 → b ≠ 46 → g' b = g b := by
  have hs6 := hX.1.2.1
  obtain ⟨v, hf, he, rfl, g', rfl, hh⟩ := kx_evP (E := E) (d := d + 5) (y := 7) (h := kv_wd g w) (as := [.ref 44, .ref 1]) (P := fun v h => v = none ∧ ∃ g' : kv_S, h = kv_wd g' w ∧ kx_hq (g' 45) (g' 46) (g' 44 2) (kx_yq F0 s t q) ∧ ∀ b, b ≠ 8 → b ≠ 44 → b ≠ 45 → b ≠ 46 → g' b = g b) (by decide) (Nat.le_of_ble_eq_true rfl) (by
    refine kx_st 0 (pc' := 0) (L' := [some (.ref 44), some (.ref 1), none, none]) (st' := []) (h' := kv_wd g w) rfl ?_
    refine kx_st 3 (pc' := 6) (L' := [some (.ref 44), some (.ref 1), none, none]) (st' := [.int 10, .int (g 44 2)]) (h' := kv_wd g w) rfl ?_
    refine kx_rm rfl (by decide) ?_
    refine kx_st 3 (pc' := 10) (L' := [some (.ref 44), some (.ref 1), some (.int ((g 44 2) % 10)), some (.int 0)]) (st' := []) (h' := kv_wd g w) rfl ?_
    refine lp_goAhead44 hX _ (fun g1 h1 h2 h3 => ⟨rfl, _, rfl, ⟨fun p hp => ⟨?_, ?_⟩, ?_⟩, fun b b1 b2 b3 b4 => ?_⟩) s 0 g (by omega) (kx_yi_0 _ _ _ _ _).symm (kx_yi_0 _ _ _ _ _).symm (fun _ _ _ _ => rfl)
    · show g1 45 p = kx_yi F0 t 0 (nI q.2.2 % 10) q.1 s p
      rw [h1, hq.2]
      exact kx_yi_cg (hq.1 p hp).1
    · show g1 46 p = kx_yi F0 t 1 (nI q.2.2 % 10) q.2.1 s p
      rw [h2, hq.2]
      exact kx_yi_cg (hq.1 p hp).2
    · show g1 44 2 + 1 = nI (q.2.2 + 1)
      rw [h3 44 (by omega) (by omega) (by omega), hq.2, nI_succ]
    · rw [kv_up_ne b2]
      exact h3 b b1 b3 b4)
  exact ⟨g', he, hh⟩
set_option maxRecDepth 100000 in
theorem ev_goOn {E : kv_V} {d : Nat} {g : kv_S} {w : kv_W} {F0 F1 : kx_FF} {s t m : Nat} {K : Nat → Nat → Int32} (hX : kx_X F0 F1 s t m K g) (q : kx_Q) (hq : kx_hq (g 45) (g 46) (g 44 2) q) : ∃ g' : kv_S, kv_ev E (d + 7) 61 [.ref 43, .ref 1] (kv_wd g w) none (kv_wd g' w) ∧ kx_hq (g' 45) (g' 46) (g' 44 2) (kx_yq F0 s t q) ∧ ∀ b, b ≠ 8 → b ≠ 44 → b ≠ 45 → b ≠ 46 → g' b = g b := by
  obtain ⟨g', he, hh⟩ := ev_goAhead44 (E := E) (d := d) (w := w) hX q hq
  refine ⟨g', ?_, hh⟩
  refine kx_ev (d := d + 6) (by decide) (Nat.le_of_ble_eq_true rfl) ?_
  refine kx_st 0 (pc' := 0) (L' := [some (.ref 43), some (.ref 1)]) (st' := []) (h' := kv_wd g w) rfl ?_
  refine kx_st 3 (pc' := 5) (L' := [some (.ref 43), some (.ref 1)]) (st' := [.ref 1, .ref 44]) (h' := kv_wd g w) rfl ?_
  refine kx_call (z := 7) (as := [.ref 44, .ref 1]) (rest := []) (v := none) (h1 := kv_wd g' w) rfl he ?_
  refine kx_st 0 (pc' := 8) (L' := [some (.ref 43), some (.ref 1)]) (st' := []) (h' := kv_wd g' w) rfl ?_
  refine kx_ret (v := none) rfl ?_
  exact ⟨rfl, rfl⟩
theorem kx_va6 {f r : Nat → Int32} {p : Nat} (h : p < 6) : va_cpy f r 0 0 6 p = f p := by
  unfold va_cpy
  rw [if_pos (by omega), show 0 + (p - 0) = p by omega]
set_option maxRecDepth 100000 in
theorem lp_goBehind {E : kv_V} {d : Nat} {w : kv_W} {F0 F1 : kx_FF} {s t m : Nat} {K : Nat → Nat → Int32} (n : Nat) (n60 : n ≤ 60) (q : kx_Q) (g : kv_S) (hX : kx_X F0 F1 s t m K g) {P : Option Value → kv_H → Prop} (hP : ∀ g1 : kv_S, kx_hq (g1 45) (g1 46) (g1 44 2) (kx_yn F0 s t n q) → (∀ b, b ≠ 8 → b ≠ 44 → b ≠ 45 → b ≠ 46 → g1 b = g b) → P none (kv_wd g1 w)) : ∀ (nz i : Nat) (g1 : kv_S), i + nz = n → kx_hq (g1 45) (g1 46) (g1 44 2) (kx_yn F0 s t i q) → (∀ b, b ≠ 8 → b ≠ 44 → b ≠ 45 → b ≠ 46 → g1 b = g b) → kx_V E (d + 7) 60 13 [some (.ref 43), some (.ref 1), some (.int (nI n)), some (.int (nI i))] [] (kv_wd g1 w) P := by
  intro nz
  induction nz with
  | zero =>
    intro i g1 hi h1 h2
    have hkN : i = n := by omega
    refine kx_st 2 (pc' := 15) (L' := [some (.ref 43), some (.ref 1), some (.int (nI n)), some (.int (nI i))]) (st' := [.int (nI n), .int (nI i)]) (h' := kv_wd g1 w) rfl ?_
    refine kx_bi (t := 29) rfl rfl (fun (h15 : nI n ≤ nI i) => ?_) (fun (h15 : ¬ (nI n ≤ nI i)) => ?_)
    · refine kx_ret (v := none) rfl ?_
      subst hkN
      exact hP g1 h1 h2
    · exact absurd (nI_le (a := n) (b := i) (by omega) (by omega)) h15
  | succ nz ih =>
    intro i g1 hi h1 h2
    have hX1 : kx_X F0 F1 s t m K g1 := kx_X_cg (fun b hb => h2 b (by omega) (by omega) (by omega) (by omega)) hX
    refine kx_st 2 (pc' := 15) (L' := [some (.ref 43), some (.ref 1), some (.int (nI n)), some (.int (nI i))]) (st' := [.int (nI n), .int (nI i)]) (h' := kv_wd g1 w) rfl ?_
    refine kx_bi (t := 29) rfl rfl (fun (h15 : nI n ≤ nI i) => ?_) (fun (h15 : ¬ (nI n ≤ nI i)) => ?_)
    · exact absurd h15 (nI_ge (a := i) (b := n) (by omega) (by omega))
    · refine kx_st 0 (pc' := 18) (L' := [some (.ref 43), some (.ref 1), some (.int (nI n)), some (.int (nI i))]) (st' := []) (h' := kv_wd g1 w) rfl ?_
      refine kx_st 2 (pc' := 20) (L' := [some (.ref 43), some (.ref 1), some (.int (nI n)), some (.int (nI i))]) (st' := [.ref 1, .ref 43]) (h' := kv_wd g1 w) rfl ?_
      obtain ⟨g2, e20, k1, k2⟩ := ev_goOn (E := E) (d := d) (w := w) hX1 _ h1
      refine kx_call (z := 61) (as := [.ref 43, .ref 1]) (rest := []) (v := none) (h1 := kv_wd g2 w) rfl e20 ?_
      refine kx_st 0 (pc' := 23) (L' := [some (.ref 43), some (.ref 1), some (.int (nI n)), some (.int (nI i))]) (st' := []) (h' := kv_wd g2 w) rfl ?_
      refine kx_st 2 (pc' := 13) (L' := [some (.ref 43), some (.ref 1), some (.int (nI n)), some (.int ((nI i) + 1))]) (st' := []) (h' := kv_wd g2 w) rfl ?_
      rw [← nI_succ]
      exact ih (i + 1) g2 (by omega) k1 (fun b b1 b2 b3 b4 => (k2 b b1 b2 b3 b4).trans (h2 b b1 b2 b3 b4))
set_option maxRecDepth 100000 in
theorem ev_hcopy {E : kv_V} {d : Nat} {g : kv_S} {w : kv_W}  : kv_ev E (d + 1) 1 [.ref 44, .ref 2] (kv_wd g w) none (kv_wd (kv_up (kv_uf (kv_uf g 45 (va_cpy (g 3) (g 45) 0 0 6)) 46 (va_cpy (g 4) (g 46) 0 0 6)) 44 2 (g 2 2)) w) := by
  refine kx_ev (d := d + 0) (by decide) (Nat.le_of_ble_eq_true rfl) ?_
  refine kx_st 0 (pc' := 0) (L' := [some (.ref 44), some (.ref 2)]) (st' := []) (h' := kv_wd g w) rfl ?_
  refine kx_st 9 (pc' := 15) (L' := [some (.ref 44), some (.ref 2)]) (st' := [.int 6, .int 0, .ref 45, .int 0, .ref 3]) (h' := kv_wd g w) rfl ?_
  refine kx_cp (sp := 0) (dp := 0) (n := 6) rfl rfl rfl rfl rfl rfl (by decide) (by decide) rfl rfl rfl (by omega) (by omega) (by decide) (by decide) (Nat.le_of_ble_eq_true rfl) ?_
  refine kx_st 9 (pc' := 33) (L' := [some (.ref 44), some (.ref 2)]) (st' := [.int 6, .int 0, .ref 46, .int 0, .ref 4]) (h' := kv_wd (kv_uf g 45 (va_cpy (g 3) (g 45) 0 0 6)) w) rfl ?_
  refine kx_cp (sp := 0) (dp := 0) (n := 6) rfl rfl rfl rfl rfl rfl (by decide) (by decide) rfl rfl rfl (by omega) (by omega) (by decide) (by decide) (Nat.le_of_ble_eq_true rfl) ?_
  refine kx_st 3 (pc' := 41) (L' := [some (.ref 44), some (.ref 2)]) (st' := [.int ((kv_uf (kv_uf g 45 (va_cpy (g 3) (g 45) 0 0 6)) 46 (va_cpy ((kv_uf g 45 (va_cpy (g 3) (g 45) 0 0 6)) 4) ((kv_uf g 45 (va_cpy (g 3) (g 45) 0 0 6)) 46) 0 0 6)) 2 2), .ref 44]) (h' := kv_wd (kv_uf (kv_uf g 45 (va_cpy (g 3) (g 45) 0 0 6)) 46 (va_cpy ((kv_uf g 45 (va_cpy (g 3) (g 45) 0 0 6)) 4) ((kv_uf g 45 (va_cpy (g 3) (g 45) 0 0 6)) 46) 0 0 6)) w) rfl ?_
  refine kx_pf (i := 18) (k := 2) (x := ((kv_uf (kv_uf g 45 (va_cpy (g 3) (g 45) 0 0 6)) 46 (va_cpy ((kv_uf g 45 (va_cpy (g 3) (g 45) 0 0 6)) 4) ((kv_uf g 45 (va_cpy (g 3) (g 45) 0 0 6)) 46) 0 0 6)) 2 2)) rfl rfl (by decide) rfl (Nat.le_of_ble_eq_true rfl) rfl rfl rfl ?_
  refine kx_ret (v := none) rfl ?_
  exact ⟨rfl, rfl⟩
set_option maxRecDepth 100000 in
theorem ev_goBehind {E : kv_V} {d : Nat} {g : kv_S} {w : kv_W} {F0 F1 : kx_FF} {s t m : Nat} {K : Nat → Nat → Int32} (hX : kx_X F0 F1 s t m K g) (q : kx_Q) (hq : kx_hq (g 3) (g 4) (g 2 2) q) (n : Nat) (n60 : n ≤ 60) : ∃ g' : kv_S, kv_ev E (d + 8) 60 [.ref 43, .ref 1, .int (nI n)] (kv_wd g w) none (kv_wd g' w) ∧ kx_hq (g' 45) (g' 46) (g' 44 2) (kx_yn F0 s t n q) ∧ ∀ b, b ≠ 8 → b ≠ 44 → b ≠ 45 → b ≠ 46 → g' b = g b := by
  obtain ⟨v, hf, he, rfl, g', rfl, hh⟩ := kx_evP (E := E) (d := d + 7) (y := 60) (h := kv_wd g w) (as := [.ref 43, .ref 1, .int (nI n)]) (P := fun v h => v = none ∧ ∃ g' : kv_S, h = kv_wd g' w ∧ kx_hq (g' 45) (g' 46) (g' 44 2) (kx_yn F0 s t n q) ∧ ∀ b, b ≠ 8 → b ≠ 44 → b ≠ 45 → b ≠ 46 → g' b = g b) (by decide) (Nat.le_of_ble_eq_true rfl) (by
    refine kx_st 0 (pc' := 0) (L' := [some (.ref 43), some (.ref 1), some (.int (nI n)), none]) (st' := []) (h' := kv_wd g w) rfl ?_
    refine kx_st 4 (pc' := 8) (L' := [some (.ref 43), some (.ref 1), some (.int (nI n)), none]) (st' := [.ref 2, .ref 44]) (h' := kv_wd g w) rfl ?_
    refine kx_call (z := 1) (as := [.ref 44, .ref 2]) (rest := []) (v := none) (h1 := kv_wd (kv_up (kv_uf (kv_uf g 45 (va_cpy (g 3) (g 45) 0 0 6)) 46 (va_cpy (g 4) (g 46) 0 0 6)) 44 2 (g 2 2)) w) rfl (ev_hcopy (d := d + 6)) ?_
    refine kx_st 0 (pc' := 11) (L' := [some (.ref 43), some (.ref 1), some (.int (nI n)), none]) (st' := []) (h' := kv_wd (kv_up (kv_uf (kv_uf g 45 (va_cpy (g 3) (g 45) 0 0 6)) 46 (va_cpy (g 4) (g 46) 0 0 6)) 44 2 (g 2 2)) w) rfl ?_
    refine kx_st 2 (pc' := 13) (L' := [some (.ref 43), some (.ref 1), some (.int (nI n)), some (.int 0)]) (st' := []) (h' := kv_wd (kv_up (kv_uf (kv_uf g 45 (va_cpy (g 3) (g 45) 0 0 6)) 46 (va_cpy (g 4) (g 46) 0 0 6)) 44 2 (g 2 2)) w) rfl ?_
    refine lp_goBehind n n60 q g hX (fun g1 h1 h2 => ⟨rfl, g1, rfl, h1, h2⟩) n 0 _ (by omega) ⟨fun p hp => ⟨?_, ?_⟩, ?_⟩ (fun b b1 b2 b3 b4 => ?_)
    · show va_cpy (g 3) (g 45) 0 0 6 p = q.1 p
      rw [kx_va6 hp]; exact (hq.1 p hp).1
    · show va_cpy (g 4) (g 46) 0 0 6 p = q.2.1 p
      rw [kx_va6 hp]; exact (hq.1 p hp).2
    · exact hq.2
    · rw [kv_up_ne b2, kv_uf_ne b4, kv_uf_ne b3])
  exact ⟨g', he, hh⟩
set_option maxRecDepth 100000 in
theorem lp_oneYear {E : kv_V} {d : Nat} {g : kv_S} {w : kv_W} {F0 F1 : kx_FF} {s t m : Nat} {K : Nat → Nat → Int32} (hM : kx_M F0 F1 s t m K (g 66)) (y0 : Int32) {P : Option Value → kv_H → Prop} (hP : ∀ g1 : kv_S, (∀ p, p < 6 → g1 66 (8 + p) = kx_yi F0 t 0 y0 (fun p => g 66 (8 + p)) s p ∧ g1 66 (14 + p) = kx_yi F0 t 1 y0 (fun p => g 66 (14 + p)) s p) → (∀ j, (j < 8 ∨ 20 ≤ j) → g1 66 j = g 66 j) → (∀ b, b ≠ 65 → b ≠ 66 → g1 b = g b) → (∀ k, (k < 7 ∨ 14 < k) → g1 65 k = g 65 k) → P none (kv_wd (kv_up g1 66 0 (g1 66 0 + 1)) w)) : ∀ (nz i : Nat) (g1 : kv_S), i + nz = s → (∀ p, p < 6 → g1 66 (8 + p) = kx_yi F0 t 0 y0 (fun p => g 66 (8 + p)) i p ∧ g1 66 (14 + p) = kx_yi F0 t 1 y0 (fun p => g 66 (14 + p)) i p) → (∀ j, (j < 8 ∨ 20 ≤ j) → g1 66 j = g 66 j) → (∀ b, b ≠ 65 → b ≠ 66 → g1 b = g b) → (∀ k, (k < 7 ∨ 14 < k) → g1 65 k = g 65 k) → kx_V E (d + 100) 178 12 [some (.ref 65), some (.int y0), some (.int (nI i))] [] (kv_wd g1 w) P := by
  have hs6 := hM.1.2.1
  intro nz
  induction nz with
  | zero =>
    intro i g1 hi h1 h2 h3 h4
    have hkN : i = s := by omega
    have hM1 : kx_M F0 F1 s t m K (g1 66) := kx_M_cg (fun j hj _ _ => h2 j hj) hM
    refine kx_st 4 (pc' := 18) (L' := [some (.ref 65), some (.int y0), some (.int (nI i))]) (st' := [.int 3, .ref 66, .int (nI i)]) (h' := kv_wd g1 w) rfl ?_
    refine kx_ia (k := 3) rfl rfl (by decide) rfl (by decide) (by decide) ?_
    refine kx_bi (t := 86) rfl rfl (fun (h19 : g1 66 3 ≤ nI i) => ?_) (fun (h19 : ¬ (g1 66 3 ≤ nI i)) => ?_)
    · refine kx_st 4 (pc' := 92) (L' := [some (.ref 65), some (.int y0), some (.int (nI i))]) (st' := [.int 0, .ref 66, .int 0, .ref 66]) (h' := kv_wd g1 w) rfl ?_
      refine kx_ia (k := 0) rfl rfl (by decide) rfl (by decide) (by decide) ?_
      refine kx_st 2 (pc' := 95) (L' := [some (.ref 65), some (.int y0), some (.int (nI i))]) (st' := [.int ((g1 66 0) + 1), .int 0, .ref 66]) (h' := kv_wd g1 w) rfl ?_
      refine kx_is (k := 0) rfl rfl (by decide) rfl (by decide) (by decide) ?_
      refine kx_ret (v := none) rfl ?_
      subst hkN
      exact hP g1 h1 h2 h3 h4
    · exact absurd (by rw [hM1.2.1.1]; exact nI_le (by omega) (by omega)) h19
  | succ nz ih =>
    intro i g1 hi h1 h2 h3 h4
    have hM1 : kx_M F0 F1 s t m K (g1 66) := kx_M_cg (fun j hj _ _ => h2 j hj) hM
    refine kx_st 4 (pc' := 18) (L' := [some (.ref 65), some (.int y0), some (.int (nI i))]) (st' := [.int 3, .ref 66, .int (nI i)]) (h' := kv_wd g1 w) rfl ?_
    refine kx_ia (k := 3) rfl rfl (by decide) rfl (by decide) (by decide) ?_
    refine kx_bi (t := 86) rfl rfl (fun (h19 : g1 66 3 ≤ nI i) => ?_) (fun (h19 : ¬ (g1 66 3 ≤ nI i)) => ?_)
    · exact absurd h19 (by rw [hM1.2.1.1]; exact nI_ge (a := i) (b := s) (by omega) (by omega))
    · refine kx_st 0 (pc' := 22) (L' := [some (.ref 65), some (.int y0), some (.int (nI i))]) (st' := []) (h' := kv_wd g1 w) rfl ?_
      refine kx_st 2 (pc' := 24) (L' := [some (.ref 65), some (.int y0), some (.int (nI i))]) (st' := [.int (nI i), .ref 65]) (h' := kv_wd g1 w) rfl ?_
      refine kx_call (z := 141) (as := [.ref 65, .int (nI i)]) (rest := []) (v := some (.int (kx_b (t.testBit i = true)))) (h1 := kv_wd g1 w) rfl (ev_mThereT (d := d + 99) hM1 i (by omega)) ?_
      refine kx_st 0 (pc' := 27) (L' := [some (.ref 65), some (.int y0), some (.int (nI i))]) (st' := [.int (kx_b (t.testBit i = true))]) (h' := kv_wd g1 w) rfl ?_
      refine kx_be (t := 80) rfl rfl (fun (h27 : ¬ (t.testBit i = true)) => ?_) (fun (h27 : (t.testBit i = true)) => ?_)
      · refine kx_st 2 (pc' := 12) (L' := [some (.ref 65), some (.int y0), some (.int ((nI i) + 1))]) (st' := []) (h' := kv_wd g1 w) rfl ?_
        rw [← nI_succ]
        refine ih (i + 1) g1 (by omega) (fun p hp => ?_) h2 h3 h4
        rw [kx_yi_n h27, kx_yi_n h27]
        exact h1 p hp
      · refine kx_st 0 (pc' := 30) (L' := [some (.ref 65), some (.int y0), some (.int (nI i))]) (st' := []) (h' := kv_wd g1 w) rfl ?_
        refine kx_st 12 (pc' := 48) (L' := [some (.ref 65), some (.int y0), some (.int (nI i))]) (st' := [.int (8 + (nI i)), .ref 66, .int 0, .ref 65, .int (8 + (nI i)), .ref 66]) (h' := kv_wd g1 w) rfl ?_
        refine kx_ia (k := (8 + i)) rfl rfl (by decide) (kx_nadd _ _) (by omega) (by decide) ?_
        refine kx_st 2 (pc' := 51) (L' := [some (.ref 65), some (.int y0), some (.int (nI i))]) (st' := [.int y0, .int 0, .int (g1 66 (8 + i)), .int 0, .ref 65, .int (8 + (nI i)), .ref 66]) (h' := kv_wd g1 w) rfl ?_
        obtain ⟨f51, k51, e51⟩ := ev_lawOf0 (E := E) (d := d) (g := g1) (w := w) hM1 (g1 66 (8 + i)) 0 y0
        refine kx_call (z := 167) (as := [.ref 65, .int 0, .int (g1 66 (8 + i)), .int 0, .int y0]) (rest := [.int (8 + (nI i)), .ref 66]) (v := some (.int (F0 (g1 66 (8 + i)) 0 y0))) (h1 := kv_wd (kv_uf g1 65 f51) w) rfl e51 ?_
        refine kx_st 0 (pc' := 54) (L' := [some (.ref 65), some (.int y0), some (.int (nI i))]) (st' := [.int (F0 (g1 66 (8 + i)) 0 y0), .int (8 + (nI i)), .ref 66]) (h' := kv_wd (kv_uf g1 65 f51) w) rfl ?_
        refine kx_is (k := (8 + i)) rfl rfl (by decide) (kx_nadd _ _) (by omega) (by decide) ?_
        refine kx_st 12 (pc' := 73) (L' := [some (.ref 65), some (.int y0), some (.int (nI i))]) (st' := [.int (14 + (nI i)), .ref 66, .int 0, .ref 65, .int (14 + (nI i)), .ref 66]) (h' := kv_wd (kv_up (kv_uf g1 65 f51) 66 (8 + i) (F0 (g1 66 (8 + i)) 0 y0)) w) rfl ?_
        refine kx_ia (k := (14 + i)) rfl rfl (by decide) (kx_nadd _ _) (by omega) (by decide) ?_
        refine kx_st 2 (pc' := 76) (L' := [some (.ref 65), some (.int y0), some (.int (nI i))]) (st' := [.int y0, .int 1, .int ((kv_up (kv_uf g1 65 f51) 66 (8 + i) (F0 (g1 66 (8 + i)) 0 y0)) 66 (14 + i)), .int 0, .ref 65, .int (14 + (nI i)), .ref 66]) (h' := kv_wd (kv_up (kv_uf g1 65 f51) 66 (8 + i) (F0 (g1 66 (8 + i)) 0 y0)) w) rfl ?_
        obtain ⟨f76, k76, e76⟩ := ev_lawOf0 (E := E) (d := d) (g := kv_up (kv_uf g1 65 f51) 66 (8 + i) (F0 (g1 66 (8 + i)) 0 y0)) (w := w) (kx_M_cg (r := g1 66) (fun j hj _ _ => by show upd (g1 66) (8 + i) _ j = _; exact kx_upn (by omega)) hM1) ((kv_up (kv_uf g1 65 f51) 66 (8 + i) (F0 (g1 66 (8 + i)) 0 y0)) 66 (14 + i)) 1 y0
        refine kx_call (z := 167) (as := [.ref 65, .int 0, .int ((kv_up (kv_uf g1 65 f51) 66 (8 + i) (F0 (g1 66 (8 + i)) 0 y0)) 66 (14 + i)), .int 1, .int y0]) (rest := [.int (14 + (nI i)), .ref 66]) (v := some (.int (F0 ((kv_up (kv_uf g1 65 f51) 66 (8 + i) (F0 (g1 66 (8 + i)) 0 y0)) 66 (14 + i)) 1 y0))) (h1 := kv_wd (kv_uf (kv_up (kv_uf g1 65 f51) 66 (8 + i) (F0 (g1 66 (8 + i)) 0 y0)) 65 f76) w) rfl e76 ?_
        refine kx_st 0 (pc' := 79) (L' := [some (.ref 65), some (.int y0), some (.int (nI i))]) (st' := [.int (F0 ((kv_up (kv_uf g1 65 f51) 66 (8 + i) (F0 (g1 66 (8 + i)) 0 y0)) 66 (14 + i)) 1 y0), .int (14 + (nI i)), .ref 66]) (h' := kv_wd (kv_uf (kv_up (kv_uf g1 65 f51) 66 (8 + i) (F0 (g1 66 (8 + i)) 0 y0)) 65 f76) w) rfl ?_
        refine kx_is (k := (14 + i)) rfl rfl (by decide) (kx_nadd _ _) (by omega) (by decide) ?_
        refine kx_st 2 (pc' := 12) (L' := [some (.ref 65), some (.int y0), some (.int ((nI i) + 1))]) (st' := []) (h' := kv_wd (kv_up (kv_uf (kv_up (kv_uf g1 65 f51) 66 (8 + i) (F0 (g1 66 (8 + i)) 0 y0)) 65 f76) 66 (14 + i) (F0 ((kv_up (kv_uf g1 65 f51) 66 (8 + i) (F0 (g1 66 (8 + i)) 0 y0)) 66 (14 + i)) 1 y0)) w) rfl ?_
        rw [← nI_succ]
        refine ih (i + 1) _ (by omega) (fun p hp => ⟨?_, ?_⟩) (fun j hj => ?_) (fun b b1 b2 => ?_) (fun k hk => ?_)
        · show upd (upd (g1 66) (8 + i) (F0 (g1 66 (8 + i)) 0 y0)) (14 + i) _ (8 + p) = _
          rw [kx_upn (by omega), kx_yi_1 h27]
          by_cases hpi : p = i
          · subst hpi
            rw [kx_ups, if_pos rfl, (h1 p hp).1, kx_yi_at]
          · rw [kx_upn (by omega), if_neg hpi]
            exact (h1 p hp).1
        · show upd (upd (g1 66) (8 + i) _) (14 + i) (F0 (upd (g1 66) (8 + i) _ (14 + i)) 1 y0) (14 + p) = _
          rw [kx_yi_1 h27]
          by_cases hpi : p = i
          · subst hpi
            rw [kx_ups, if_pos rfl, kx_upn (by omega), (h1 p hp).2, kx_yi_at]
          · rw [kx_upn (by omega), kx_upn (by omega), if_neg hpi]
            exact (h1 p hp).2
        · show upd (upd (g1 66) (8 + i) _) (14 + i) _ j = _
          rw [kx_upn (by omega), kx_upn (by omega)]
          exact h2 j hj
        · rw [kv_up_ne b2, kv_uf_ne b1, kv_up_ne b2, kv_uf_ne b1]
          exact h3 b b1 b2
        · show f76 k = _
          rw [k76 k hk]
          show f51 k = _
          rw [k51 k hk]
          exact h4 k hk
set_option maxRecDepth 100000 in
theorem ev_oneYear {E : kv_V} {d : Nat} {g : kv_S} {w : kv_W} {F0 F1 : kx_FF} {s t m : Nat} {K : Nat → Nat → Int32} (hM : kx_M F0 F1 s t m K (g 66)) (q : kx_Q) (hq : kx_hmq (g 66) q) : ∃ g' : kv_S, kv_ev E (d + 101) 178 [.ref 65] (kv_wd g w) none (kv_wd g' w) ∧ kx_hmq (g' 66) (kx_yq F0 s t q) ∧ (∀ j, 0 < j → (j < 8 ∨ 20 ≤ j) → g' 66 j = g 66 j) ∧ (∀ b, b ≠ 65 → b ≠ 66 → g' b = g b) ∧ ∀ k, (k < 7 ∨ 14 < k) → g' 65 k = g 65 k := by
  have hs6 := hM.1.2.1
  obtain ⟨v, hf, he, rfl, g', rfl, hh⟩ := kx_evP (E := E) (d := d + 100) (y := 178) (h := kv_wd g w) (as := [.ref 65]) (P := fun v h => v = none ∧ ∃ g' : kv_S, h = kv_wd g' w ∧ kx_hmq (g' 66) (kx_yq F0 s t q) ∧ (∀ j, 0 < j → (j < 8 ∨ 20 ≤ j) → g' 66 j = g 66 j) ∧ (∀ b, b ≠ 65 → b ≠ 66 → g' b = g b) ∧ ∀ k, (k < 7 ∨ 14 < k) → g' 65 k = g 65 k) (by decide) (Nat.le_of_ble_eq_true rfl) (by
    refine kx_st 0 (pc' := 0) (L' := [some (.ref 65), none, none]) (st' := []) (h' := kv_wd g w) rfl ?_
    refine kx_st 3 (pc' := 5) (L' := [some (.ref 65), none, none]) (st' := [.int 0, .ref 66]) (h' := kv_wd g w) rfl ?_
    refine kx_ia (k := 0) rfl rfl (by decide) rfl (by decide) (by decide) ?_
    refine kx_st 1 (pc' := 8) (L' := [some (.ref 65), none, none]) (st' := [.int 10, .int (g 66 0)]) (h' := kv_wd g w) rfl ?_
    refine kx_rm rfl (by decide) ?_
    refine kx_st 3 (pc' := 12) (L' := [some (.ref 65), some (.int ((g 66 0) % 10)), some (.int 0)]) (st' := []) (h' := kv_wd g w) rfl ?_
    refine lp_oneYear hM _ (fun g1 h1 h2 h3 h4 => ⟨rfl, _, rfl, ⟨fun p hp => ⟨?_, ?_⟩, ?_⟩, fun j j0 hj => ?_, fun b b1 b2 => ?_, fun k hk => ?_⟩) s 0 g (by omega) (fun p hp => by rw [kx_yi_0, kx_yi_0]; exact ⟨rfl, rfl⟩) (fun _ _ => rfl) (fun _ _ _ => rfl) (fun _ _ => rfl)
    · show upd (g1 66) 0 _ (8 + p) = kx_yi F0 t 0 (nI q.2.2 % 10) q.1 s p
      rw [kx_upn (by omega), (h1 p hp).1, show g 66 0 = _ from hq.2]
      exact kx_yi_cg (hq.1 p hp).1
    · show upd (g1 66) 0 _ (14 + p) = kx_yi F0 t 1 (nI q.2.2 % 10) q.2.1 s p
      rw [kx_upn (by omega), (h1 p hp).2, show g 66 0 = _ from hq.2]
      exact kx_yi_cg (hq.1 p hp).2
    · show upd (g1 66) 0 (g1 66 0 + 1) 0 = nI (q.2.2 + 1)
      rw [kx_ups, h2 0 (by omega), show g 66 0 = _ from hq.2, nI_succ]
    · show upd (g1 66) 0 _ j = _
      rw [kx_upn (by omega)]; exact h2 j hj
    · rw [kv_up_ne b2]; exact h3 b b1 b2
    · exact h4 k hk)
  exact ⟨g', he, hh⟩
set_option maxRecDepth 100000 in
theorem lp_passes {E : kv_V} {d : Nat} {w : kv_W} {F0 F1 : kx_FF} {s t m : Nat} {K : Nat → Nat → Int32} (n : Nat) (n60 : n ≤ 60) (q : kx_Q) (g : kv_S) (hM : kx_M F0 F1 s t m K (g 66)) {P : Option Value → kv_H → Prop} (hP : ∀ g1 : kv_S, (kx_hmq (g1 66) (kx_yn F0 s t n q) ∧ (∀ j, 0 < j → (j < 8 ∨ 20 ≤ j) → g1 66 j = g 66 j) ∧ (∀ b, b ≠ 65 → b ≠ 66 → g1 b = g b) ∧ ∀ k, (k < 7 ∨ 14 < k) → g1 65 k = g 65 k) → P none (kv_wd g1 w)) : ∀ (nz i : Nat) (g1 : kv_S), i + nz = n → (kx_hmq (g1 66) (kx_yn F0 s t i q) ∧ (∀ j, 0 < j → (j < 8 ∨ 20 ≤ j) → g1 66 j = g 66 j) ∧ (∀ b, b ≠ 65 → b ≠ 66 → g1 b = g b) ∧ ∀ k, (k < 7 ∨ 14 < k) → g1 65 k = g 65 k) → kx_V E (d + 101) 179 2 [some (.ref 65), some (.int (nI n)), some (.int (nI i))] [] (kv_wd g1 w) P := by
  intro nz
  induction nz with
  | zero =>
    intro i g1 hi h1
    have hkN : i = n := by omega
    refine kx_st 2 (pc' := 4) (L' := [some (.ref 65), some (.int (nI n)), some (.int (nI i))]) (st' := [.int (nI n), .int (nI i)]) (h' := kv_wd g1 w) rfl ?_
    refine kx_bi (t := 17) rfl rfl (fun (h4 : nI n ≤ nI i) => ?_) (fun (h4 : ¬ (nI n ≤ nI i)) => ?_)
    · refine kx_ret (v := none) rfl ?_
      subst hkN
      exact hP g1 h1
    · exact absurd (nI_le (a := n) (b := i) (by omega) (by omega)) h4
  | succ nz ih =>
    intro i g1 hi h1
    have hM1 : kx_M F0 F1 s t m K (g1 66) := kx_M_cg (fun j hj j0 _ => h1.2.1 j j0 hj) hM
    refine kx_st 2 (pc' := 4) (L' := [some (.ref 65), some (.int (nI n)), some (.int (nI i))]) (st' := [.int (nI n), .int (nI i)]) (h' := kv_wd g1 w) rfl ?_
    refine kx_bi (t := 17) rfl rfl (fun (h4 : nI n ≤ nI i) => ?_) (fun (h4 : ¬ (nI n ≤ nI i)) => ?_)
    · exact absurd h4 (nI_ge (a := i) (b := n) (by omega) (by omega))
    · refine kx_st 0 (pc' := 7) (L' := [some (.ref 65), some (.int (nI n)), some (.int (nI i))]) (st' := []) (h' := kv_wd g1 w) rfl ?_
      refine kx_st 1 (pc' := 8) (L' := [some (.ref 65), some (.int (nI n)), some (.int (nI i))]) (st' := [.ref 65]) (h' := kv_wd g1 w) rfl ?_
      obtain ⟨g2, e8, k1, k2, k3, k4⟩ := ev_oneYear (E := E) (d := d) (w := w) hM1 _ h1.1
      refine kx_call (z := 178) (as := [.ref 65]) (rest := []) (v := none) (h1 := kv_wd g2 w) rfl e8 ?_
      refine kx_st 0 (pc' := 11) (L' := [some (.ref 65), some (.int (nI n)), some (.int (nI i))]) (st' := []) (h' := kv_wd g2 w) rfl ?_
      refine kx_st 2 (pc' := 2) (L' := [some (.ref 65), some (.int (nI n)), some (.int ((nI i) + 1))]) (st' := []) (h' := kv_wd g2 w) rfl ?_
      rw [← nI_succ]
      exact ih (i + 1) g2 (by omega) ⟨k1, fun j j0 hj => (k2 j j0 hj).trans (h1.2.1 j j0 hj), fun b b1 b2 => (k3 b b1 b2).trans (h1.2.2.1 b b1 b2), fun k hk => (k4 k hk).trans (h1.2.2.2 k hk)⟩
set_option maxRecDepth 100000 in
theorem ev_passes {E : kv_V} {d : Nat} {g : kv_S} {w : kv_W} {F0 F1 : kx_FF} {s t m : Nat} {K : Nat → Nat → Int32} (hM : kx_M F0 F1 s t m K (g 66)) (q : kx_Q) (hq : kx_hmq (g 66) q) (n : Nat) (n60 : n ≤ 60) : ∃ g' : kv_S, kv_ev E (d + 102) 179 [.ref 65, .int (nI n)] (kv_wd g w) none (kv_wd g' w) ∧ kx_hmq (g' 66) (kx_yn F0 s t n q) ∧ (∀ j, 0 < j → (j < 8 ∨ 20 ≤ j) → g' 66 j = g 66 j) ∧ (∀ b, b ≠ 65 → b ≠ 66 → g' b = g b) ∧ ∀ k, (k < 7 ∨ 14 < k) → g' 65 k = g 65 k := by
  obtain ⟨v, hf, he, rfl, g', rfl, hh⟩ := kx_evP (E := E) (d := d + 101) (y := 179) (h := kv_wd g w) (as := [.ref 65, .int (nI n)]) (P := fun v h => v = none ∧ ∃ g' : kv_S, h = kv_wd g' w ∧ kx_hmq (g' 66) (kx_yn F0 s t n q) ∧ (∀ j, 0 < j → (j < 8 ∨ 20 ≤ j) → g' 66 j = g 66 j) ∧ (∀ b, b ≠ 65 → b ≠ 66 → g' b = g b) ∧ ∀ k, (k < 7 ∨ 14 < k) → g' 65 k = g 65 k) (by decide) (Nat.le_of_ble_eq_true rfl) (by
    refine kx_st 0 (pc' := 0) (L' := [some (.ref 65), some (.int (nI n)), none]) (st' := []) (h' := kv_wd g w) rfl ?_
    refine kx_st 2 (pc' := 2) (L' := [some (.ref 65), some (.int (nI n)), some (.int 0)]) (st' := []) (h' := kv_wd g w) rfl ?_
    exact lp_passes n n60 q g hM (fun g1 h1 => ⟨rfl, g1, rfl, h1⟩) n 0 g (by omega) ⟨hq, fun _ _ _ => rfl, fun _ _ _ => rfl, fun _ _ => rfl⟩)
  exact ⟨g', he, hh⟩
