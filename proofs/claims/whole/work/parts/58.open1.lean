/-! OPEN: sets of two as bits of a long; what is undone in one pass -/
def kx_p1 (a b : Nat) : Int64 := (1 : Int64) <<< (((1 : Int32) <<< (nI a &&& 31) ||| (1 : Int32) <<< (nI b &&& 31)).toInt64 &&& 63)
def kx_pc (c : Nat) : Nat := 2 ^ (c / 6) ||| 2 ^ (c % 6)
theorem kx_p1_b : ∀ c, c < 36 → ∀ j, j < 64 → (kx_p1 (c / 6) (c % 6)).toBitVec.getLsbD j = decide (j = kx_pc c) := by decide +kernel
theorem kx_pc_i : ∀ c, c < 36 → c % 6 < c / 6 → ∀ c', c' < 36 → c' % 6 < c' / 6 → kx_pc c = kx_pc c' → c = c' := by decide +kernel
theorem kx_pc_l : ∀ c, c < 36 → kx_pc c < 64 := by decide +kernel
/-- all pairs so far, as bits -/
def kx_lf (p : Nat → Nat → Bool) : Nat → Int64
  | 0 => 0
  | n + 1 => if n % 6 < n / 6 ∧ p (n / 6) (n % 6) = true then kx_lf p n ||| kx_p1 (n / 6) (n % 6) else kx_lf p n
theorem kx_lf_y {p : Nat → Nat → Bool} {n a b : Nat} (ha : n / 6 = a) (hb : n % 6 = b) (h1 : b < a) (h2 : p a b = true) : kx_lf p (n + 1) = kx_lf p n ||| kx_p1 a b := by
  subst ha hb
  exact if_pos ⟨h1, h2⟩
theorem kx_lf_n {p : Nat → Nat → Bool} {n a b : Nat} (ha : n / 6 = a) (hb : n % 6 = b) (h : ¬ (b < a ∧ p a b = true)) : kx_lf p (n + 1) = kx_lf p n := by
  subst ha hb
  exact if_neg h
theorem kx_lf_sk {p : Nat → Nat → Bool} {a : Nat} : ∀ n b, b + n = 6 → a ≤ b → kx_lf p (6 * a + b) = kx_lf p (6 * (a + 1)) := by
  intro n
  induction n with
  | zero => intro b hb _; rw [show 6 * a + b = 6 * (a + 1) by omega]
  | succ n ih =>
    intro b hb hs
    rw [← ih (b + 1) (by omega) (by omega)]
    exact (kx_lf_n (a := a) (b := b) (by omega) (by omega) (fun z => by have := z.1; omega)).symm
theorem kx_lf_sk2 {p : Nat → Nat → Bool} {s : Nat} (hp : ∀ a b, p a b = true → a < s) : ∀ n b, b + n = 36 → 6 * s ≤ b → kx_lf p b = kx_lf p 36 := by
  intro n
  induction n with
  | zero => intro b hb _; rw [show b = 36 by omega]
  | succ n ih =>
    intro b hb hs
    rw [← ih (b + 1) (by omega) (by omega)]
    exact (kx_lf_n (a := b / 6) (b := b % 6) rfl rfl (fun z => by have := hp _ _ z.2; omega)).symm
theorem kx_lf_bit {p : Nat → Nat → Bool} : ∀ n, n ≤ 36 → ∀ j, j < 64 → ((kx_lf p n).toBitVec.getLsbD j = true ↔ ∃ c, c < n ∧ c % 6 < c / 6 ∧ p (c / 6) (c % 6) = true ∧ j = kx_pc c) := by
  intro n
  induction n with
  | zero =>
    intro _ j hj
    refine ⟨fun h => ?_, fun ⟨c, hc, _⟩ => by omega⟩
    have : (kx_lf p 0).toBitVec.getLsbD j = false := by show (0 : Int64).toBitVec.getLsbD j = false; simp
    rw [this] at h
    cases h
  | succ n ih =>
    intro hn j hj
    by_cases h : n % 6 < n / 6 ∧ p (n / 6) (n % 6) = true
    · rw [kx_lf_y rfl rfl h.1 h.2, Int64.toBitVec_or, BitVec.getLsbD_or, kx_p1_b n (by omega) j hj, Bool.or_eq_true, ih (by omega) j hj, decide_eq_true_iff]
      constructor
      · rintro (⟨c, h1, h2, h3, h4⟩ | h5)
        · exact ⟨c, by omega, h2, h3, h4⟩
        · exact ⟨n, by omega, h.1, h.2, h5⟩
      · rintro ⟨c, h1, h2, h3, h4⟩
        by_cases hcn : c = n
        · subst hcn; exact Or.inr h4
        · exact Or.inl ⟨c, by omega, h2, h3, h4⟩
    · rw [kx_lf_n rfl rfl h, ih (by omega) j hj]
      constructor
      · rintro ⟨c, h1, h2⟩; exact ⟨c, by omega, h2⟩
      · rintro ⟨c, h1, h2, h3, h4⟩
        refine ⟨c, ?_, h2, h3, h4⟩
        have : c ≠ n := fun z => h (z ▸ ⟨h2, h3⟩)
        omega
theorem kx_lf_z {p p' : Nat → Nat → Bool} : (kx_lf p 36 &&& kx_lf p' 36 = 0) ↔ ¬ ∃ a b, a < 6 ∧ b < a ∧ p a b = true ∧ p' a b = true := by
  constructor
  · rintro h ⟨a, b, h1, h2, h3, h4⟩
    have ea : (6 * a + b) / 6 = a := by omega
    have eb : (6 * a + b) % 6 = b := by omega
    have hj := kx_pc_l (6 * a + b) (by omega)
    have b1 := (kx_lf_bit (p := p) 36 (by omega) _ hj).mpr ⟨6 * a + b, by omega, by rw [ea, eb]; exact h2, by rw [ea, eb]; exact h3, rfl⟩
    have b2 := (kx_lf_bit (p := p') 36 (by omega) _ hj).mpr ⟨6 * a + b, by omega, by rw [ea, eb]; exact h2, by rw [ea, eb]; exact h4, rfl⟩
    have b3 : (kx_lf p 36 &&& kx_lf p' 36).toBitVec.getLsbD (kx_pc (6 * a + b)) = true := by rw [Int64.toBitVec_and, BitVec.getLsbD_and, b1, b2]; rfl
    rw [h] at b3
    have b4 : (0 : Int64).toBitVec.getLsbD (kx_pc (6 * a + b)) = false := by simp
    rw [b4] at b3
    cases b3
  · intro h
    apply Int64.toBitVec_inj.mp
    apply BitVec.eq_of_getLsbD_eq
    intro j hj
    have b4 : (0 : Int64).toBitVec.getLsbD j = false := by simp
    rw [b4, Int64.toBitVec_and, BitVec.getLsbD_and]
    cases h1 : (kx_lf p 36).toBitVec.getLsbD j with
    | false => rfl
    | true =>
      cases h2 : (kx_lf p' 36).toBitVec.getLsbD j with
      | false => rfl
      | true =>
        obtain ⟨c, c1, c2, c3, c4⟩ := (kx_lf_bit 36 (by omega) j hj).mp h1
        obtain ⟨c', d1, d2, d3, d4⟩ := (kx_lf_bit 36 (by omega) j hj).mp h2
        have := kx_pc_i c c1 c2 c' d1 d2 (c4.symm.trans d4)
        subst this
        exact absurd ⟨c / 6, c % 6, by omega, c2, c3, d3⟩ h
/-- sets of knots -/
def kx_mk (p : Nat → Bool) : Nat → Nat
  | 0 => 0
  | n + 1 => if p n = true then kx_mk p n ||| 2 ^ n else kx_mk p n
theorem kx_mk_lt (p : Nat → Bool) : ∀ n, kx_mk p n < 2 ^ n
  | 0 => Nat.one_pos
  | n + 1 => by
    have := kx_mk_lt p n
    have h2 : kx_mk p n < 2 ^ (n + 1) := by rw [Nat.pow_succ]; omega
    unfold kx_mk
    split
    · exact Nat.or_lt_two_pow h2 (Nat.pow_lt_pow_right (by omega) (by omega))
    · exact h2
theorem kx_mk_bit (p : Nat → Bool) : ∀ n j, (kx_mk p n).testBit j = (decide (j < n) && p j)
  | 0, j => by unfold kx_mk; simp
  | n + 1, j => by
    have ih := kx_mk_bit p n j
    unfold kx_mk
    by_cases h : p n = true
    · rw [if_pos h, Nat.testBit_or, ih, Nat.testBit_two_pow]
      by_cases hj : j = n
      · subst hj; simp [h]
      · have e1 : decide (n = j) = false := decide_eq_false (fun z => hj z.symm)
        have e2 : decide (j < n + 1) = decide (j < n) := by rw [decide_eq_decide]; omega
        rw [e1, e2]; simp
    · rw [if_neg h, ih]
      by_cases hj : j = n
      · subst hj; simp at h; simp [h]
      · have e2 : decide (j < n + 1) = decide (j < n) := by rw [decide_eq_decide]; omega
        rw [e2]
theorem kx_256 {n m : Nat} (h : n < 2 ^ m) (hm : m ≤ 8) : n < 256 := Nat.lt_of_lt_of_le h (Nat.le_trans (Nat.pow_le_pow_right (by omega) hm) (by decide))
theorem kx_tb8 : ∀ t, t < 256 → ∀ k, k < 8 → ((((nI t >>> (nI k &&& 31)) &&& 1) = 1) ↔ t.testBit k = true) := by decide +kernel
theorem kx_cl8 : ∀ t, t < 256 → ∀ k, k < 8 → (nI t &&& (((1 : Int32) <<< (nI k &&& 31)) ^^^ (-1))) = nI (t &&& (255 ^^^ 2 ^ k)) := by decide +kernel
theorem kx_cb8 : ∀ t, t < 256 → ∀ k, k < 8 → ∀ p, p < 8 → (t &&& (255 ^^^ 2 ^ k)).testBit p = (t.testBit p && !(p == k)) := by decide +kernel
/-- whether two of a set could undo knot k, were it tied and free -/
def kx_wy (F1 : kx_FF) (q : kx_Q) (K : Nat → Int32) (s tt : Nat) : Bool := decide (∃ c, c < 36 ∧ c / 6 < s ∧ c % 6 < s ∧ c / 6 ≠ c % 6 ∧ tt.testBit (c / 6) = true ∧ tt.testBit (c % 6) = true ∧ kx_lsn F1 q K (c / 6) (c % 6))
theorem kx_wy_i {F1 : kx_FF} {q : kx_Q} {K : Nat → Int32} {s tt : Nat} (hs : s ≤ 6) : kx_wy F1 q K s tt = true ↔ ∃ a b, a < s ∧ b < s ∧ a ≠ b ∧ tt.testBit a = true ∧ tt.testBit b = true ∧ kx_lsn F1 q K a b := by
  unfold kx_wy
  rw [decide_eq_true_iff]
  constructor
  · rintro ⟨c, h0, h1, h2, h3, h4, h5, h6⟩; exact ⟨c / 6, c % 6, h1, h2, h3, h4, h5, h6⟩
  · rintro ⟨a, b, h1, h2, h3, h4, h5, h6⟩
    refine ⟨6 * a + b, by omega, ?_⟩
    rw [show (6 * a + b) / 6 = a by omega, show (6 * a + b) % 6 = b by omega]
    exact ⟨h1, h2, h3, h4, h5, h6⟩
/-- undone, the least first -/
def kx_ud (T W : Nat → Bool) (U : Nat → Int32) : Nat → Nat → Bool
  | 0, _ => false
  | n + 1, j => if j = n then (T n && W n && (decide (U n < 0) || !T (U n).toNatClampNeg || kx_ud T W U n (U n).toNatClampNeg)) else kx_ud T W U n j
def kx_und (T W : Nat → Bool) (U : Nat → Int32) (j : Nat) : Bool := kx_ud T W U (j + 1) j
theorem kx_ud_und {T W : Nat → Bool} {U : Nat → Int32} : ∀ n j, j < n → kx_ud T W U n j = kx_und T W U j := by
  intro n
  induction n with
  | zero => intro j hj; omega
  | succ n ih =>
    intro j hj
    by_cases h : j = n
    · subst h; rfl
    · show (if j = n then _ else kx_ud T W U n j) = _
      rw [if_neg h]
      exact ih j (by omega)
theorem kx_und_eq {T W : Nat → Bool} {U : Nat → Int32} {j : Nat} (hu : U j = -1 ∨ ∃ u, u < j ∧ U j = nI u) (h8 : j < 8) : kx_und T W U j = (T j && W j && (decide (U j < 0) || !T (U j).toNatClampNeg || kx_und T W U (U j).toNatClampNeg)) := by
  show (if j = j then _ else _) = _
  rw [if_pos rfl]
  rcases hu with h | ⟨u, h1, h2⟩
  · have : decide (U j < 0) = true := decide_eq_true (by rw [h]; decide)
    rw [this]; simp
  · have e : (U j).toNatClampNeg = u := by rw [h2, nI_clamp (by omega)]
    rw [e, kx_ud_und j u h1]
set_option maxRecDepth 100000 in
theorem lp_wyin {E : kv_V} {d : Nat} {g : kv_S} {w : kv_W} {F0 F1 : kx_FF} {s t m : Nat} {K : Nat → Nat → Int32} (hX : kx_X F0 F1 s t m K g) (q : kx_Q) (hq : kx_hq (g 45) (g 46) (g 44 2) q) (hqb : kx_qb q) (k : Nat) (hkm : k < m) (hK : kx_K s k (K k) (K k)) (a : Nat) (ha : a < s) {P : Option Value → kv_H → Prop} (hP : ∀ (f : Nat → Int32), kx_V E (d + 7) 67 70 [some (.ref 43), some (.ref 1), some (.ref (14 + k)), some (.long (kx_lf (fun a b => decide (a < s) && decide (kx_lsn F1 q (K k) a b ∨ kx_lsn F1 q (K k) b a)) (6 * a + a))), none, some (.int (nI a)), some (.int (nI a))] [] (kv_wd (kv_uf g 11 f) w) P) : ∀ (nz b : Nat) (f : Nat → Int32), b + nz = a → kx_V E (d + 7) 67 17 [some (.ref 43), some (.ref 1), some (.ref (14 + k)), some (.long (kx_lf (fun a b => decide (a < s) && decide (kx_lsn F1 q (K k) a b ∨ kx_lsn F1 q (K k) b a)) (6 * a + b))), none, some (.int (nI a)), some (.int (nI b))] [] (kv_wd (kv_uf g 11 f) w) P := by
  have s6 := hX.1.2.1
  intro nz
  induction nz with
  | zero =>
    intro b f hb
    have hkN : b = a := by omega
    refine kx_st 2 (pc' := 21) (L' := [some (.ref 43), some (.ref 1), some (.ref (14 + k)), some (.long (kx_lf (fun a b => decide (a < s) && decide (kx_lsn F1 q (K k) a b ∨ kx_lsn F1 q (K k) b a)) (6 * a + b))), none, some (.int (nI a)), some (.int (nI b))]) (st' := [.int (nI a), .int (nI b)]) (h' := kv_wd (kv_uf g 11 f) w) rfl ?_
    refine kx_bi (t := 70) rfl rfl (fun (h21 : nI a ≤ nI b) => ?_) (fun (h21 : ¬ (nI a ≤ nI b)) => ?_)
    · subst hkN
      exact hP f
    · exact absurd (nI_le (a := a) (b := b) (by omega) (by omega)) h21
  | succ nz ih =>
    intro b f hb
    refine kx_st 2 (pc' := 21) (L' := [some (.ref 43), some (.ref 1), some (.ref (14 + k)), some (.long (kx_lf (fun a b => decide (a < s) && decide (kx_lsn F1 q (K k) a b ∨ kx_lsn F1 q (K k) b a)) (6 * a + b))), none, some (.int (nI a)), some (.int (nI b))]) (st' := [.int (nI a), .int (nI b)]) (h' := kv_wd (kv_uf g 11 f) w) rfl ?_
    refine kx_bi (t := 70) rfl rfl (fun (h21 : nI a ≤ nI b) => ?_) (fun (h21 : ¬ (nI a ≤ nI b)) => ?_)
    · exact absurd h21 (nI_ge (a := b) (b := a) (by omega) (by omega))
    · refine kx_st 0 (pc' := 24) (L' := [some (.ref 43), some (.ref 1), some (.ref (14 + k)), some (.long (kx_lf (fun a b => decide (a < s) && decide (kx_lsn F1 q (K k) a b ∨ kx_lsn F1 q (K k) b a)) (6 * a + b))), none, some (.int (nI a)), some (.int (nI b))]) (st' := []) (h' := kv_wd (kv_uf g 11 f) w) rfl ?_
      refine kx_st 5 (pc' := 31) (L' := [some (.ref 43), some (.ref 1), some (.ref (14 + k)), some (.long (kx_lf (fun a b => decide (a < s) && decide (kx_lsn F1 q (K k) a b ∨ kx_lsn F1 q (K k) b a)) (6 * a + b))), none, some (.int (nI a)), some (.int (nI b))]) (st' := [.int (nI b), .int (nI a), .ref (14 + k), .ref 1, .ref 43]) (h' := kv_wd (kv_uf g 11 f) w) rfl ?_
      obtain ⟨f31, e31⟩ := ev_loosens (E := E) (d := d) (g := kv_uf g 11 f) (w := w) (kx_X_cg (fun b hb => by rw [kv_uf_ne (by omega)]) hX) q hq hqb k hkm hK a b (by omega) (by omega)
      refine kx_call (z := 62) (as := [.ref 43, .ref 1, .ref (14 + k), .int (nI a), .int (nI b)]) (rest := []) (v := some (.int (kx_b (kx_lsn F1 q (K k) a b)))) (h1 := kv_wd (kv_uf (kv_uf g 11 f) 11 f31) w) rfl e31 ?_
      refine kx_st 0 (pc' := 34) (L' := [some (.ref 43), some (.ref 1), some (.ref (14 + k)), some (.long (kx_lf (fun a b => decide (a < s) && decide (kx_lsn F1 q (K k) a b ∨ kx_lsn F1 q (K k) b a)) (6 * a + b))), none, some (.int (nI a)), some (.int (nI b))]) (st' := [.int (kx_b (kx_lsn F1 q (K k) a b))]) (h' := kv_wd (kv_uf (kv_uf g 11 f) 11 f31) w) rfl ?_
      refine kx_bn (t := 50) rfl rfl (fun (h34 : (kx_lsn F1 q (K k) a b)) => ?_) (fun (h34 : ¬ (kx_lsn F1 q (K k) a b)) => ?_)
      · refine kx_st 14 (pc' := 17) (L' := [some (.ref 43), some (.ref 1), some (.ref (14 + k)), some (.long ((kx_lf (fun a b => decide (a < s) && decide (kx_lsn F1 q (K k) a b ∨ kx_lsn F1 q (K k) b a)) (6 * a + b)) ||| ((1 : Int64) <<< (((1 <<< ((nI a) &&& 31)) ||| (1 <<< ((nI b) &&& 31)) : Int32).toInt64 &&& 63)))), none, some (.int (nI a)), some (.int ((nI b) + 1))]) (st' := []) (h' := kv_wd (kv_uf (kv_uf g 11 f) 11 f31) w) rfl ?_
        rw [kv_uf_uf]
        have hh := ih (b + 1) f31 (by omega)
        rw [← Nat.add_assoc, kx_lf_y (a := a) (b := b) (by omega) (by omega) (by omega) (by rw [Bool.and_eq_true]; exact ⟨decide_eq_true (by omega), decide_eq_true (Or.inl h34)⟩), nI_succ] at hh
        exact hh
      · refine kx_st 0 (pc' := 37) (L' := [some (.ref 43), some (.ref 1), some (.ref (14 + k)), some (.long (kx_lf (fun a b => decide (a < s) && decide (kx_lsn F1 q (K k) a b ∨ kx_lsn F1 q (K k) b a)) (6 * a + b))), none, some (.int (nI a)), some (.int (nI b))]) (st' := []) (h' := kv_wd (kv_uf (kv_uf g 11 f) 11 f31) w) rfl ?_
        refine kx_st 5 (pc' := 44) (L' := [some (.ref 43), some (.ref 1), some (.ref (14 + k)), some (.long (kx_lf (fun a b => decide (a < s) && decide (kx_lsn F1 q (K k) a b ∨ kx_lsn F1 q (K k) b a)) (6 * a + b))), none, some (.int (nI a)), some (.int (nI b))]) (st' := [.int (nI a), .int (nI b), .ref (14 + k), .ref 1, .ref 43]) (h' := kv_wd (kv_uf (kv_uf g 11 f) 11 f31) w) rfl ?_
        obtain ⟨f44, e44⟩ := ev_loosens (E := E) (d := d) (g := kv_uf (kv_uf g 11 f) 11 f31) (w := w) (kx_X_cg (fun b hb => by rw [kv_uf_ne (by omega), kv_uf_ne (by omega)]) hX) q hq hqb k hkm hK b a (by omega) (by omega)
        refine kx_call (z := 62) (as := [.ref 43, .ref 1, .ref (14 + k), .int (nI b), .int (nI a)]) (rest := []) (v := some (.int (kx_b (kx_lsn F1 q (K k) b a)))) (h1 := kv_wd (kv_uf (kv_uf (kv_uf g 11 f) 11 f31) 11 f44) w) rfl e44 ?_
        refine kx_st 0 (pc' := 47) (L' := [some (.ref 43), some (.ref 1), some (.ref (14 + k)), some (.long (kx_lf (fun a b => decide (a < s) && decide (kx_lsn F1 q (K k) a b ∨ kx_lsn F1 q (K k) b a)) (6 * a + b))), none, some (.int (nI a)), some (.int (nI b))]) (st' := [.int (kx_b (kx_lsn F1 q (K k) b a))]) (h' := kv_wd (kv_uf (kv_uf (kv_uf g 11 f) 11 f31) 11 f44) w) rfl ?_
        refine kx_be (t := 64) rfl rfl (fun (h47 : ¬ (kx_lsn F1 q (K k) b a)) => ?_) (fun (h47 : (kx_lsn F1 q (K k) b a)) => ?_)
        · refine kx_st 2 (pc' := 17) (L' := [some (.ref 43), some (.ref 1), some (.ref (14 + k)), some (.long (kx_lf (fun a b => decide (a < s) && decide (kx_lsn F1 q (K k) a b ∨ kx_lsn F1 q (K k) b a)) (6 * a + b))), none, some (.int (nI a)), some (.int ((nI b) + 1))]) (st' := []) (h' := kv_wd (kv_uf (kv_uf (kv_uf g 11 f) 11 f31) 11 f44) w) rfl ?_
          rw [kv_uf_uf, kv_uf_uf]
          have hh := ih (b + 1) f44 (by omega)
          rw [← Nat.add_assoc, kx_lf_n (a := a) (b := b) (by omega) (by omega) (fun z => by have z2 := z.2; rw [Bool.and_eq_true] at z2; exact (of_decide_eq_true z2.2).elim h34 h47), nI_succ] at hh
          exact hh
        · refine kx_st 0 (pc' := 50) (L' := [some (.ref 43), some (.ref 1), some (.ref (14 + k)), some (.long (kx_lf (fun a b => decide (a < s) && decide (kx_lsn F1 q (K k) a b ∨ kx_lsn F1 q (K k) b a)) (6 * a + b))), none, some (.int (nI a)), some (.int (nI b))]) (st' := []) (h' := kv_wd (kv_uf (kv_uf (kv_uf g 11 f) 11 f31) 11 f44) w) rfl ?_
          refine kx_st 14 (pc' := 17) (L' := [some (.ref 43), some (.ref 1), some (.ref (14 + k)), some (.long ((kx_lf (fun a b => decide (a < s) && decide (kx_lsn F1 q (K k) a b ∨ kx_lsn F1 q (K k) b a)) (6 * a + b)) ||| ((1 : Int64) <<< (((1 <<< ((nI a) &&& 31)) ||| (1 <<< ((nI b) &&& 31)) : Int32).toInt64 &&& 63)))), none, some (.int (nI a)), some (.int ((nI b) + 1))]) (st' := []) (h' := kv_wd (kv_uf (kv_uf (kv_uf g 11 f) 11 f31) 11 f44) w) rfl ?_
          rw [kv_uf_uf, kv_uf_uf]
          have hh := ih (b + 1) f44 (by omega)
          rw [← Nat.add_assoc, kx_lf_y (a := a) (b := b) (by omega) (by omega) (by omega) (by rw [Bool.and_eq_true]; exact ⟨decide_eq_true (by omega), decide_eq_true (Or.inr h47)⟩), nI_succ] at hh
          exact hh
set_option maxRecDepth 100000 in
theorem lp_wyout {E : kv_V} {d : Nat} {g : kv_S} {w : kv_W} {F0 F1 : kx_FF} {s t m : Nat} {K : Nat → Nat → Int32} (hX : kx_X F0 F1 s t m K g) (q : kx_Q) (hq : kx_hq (g 45) (g 46) (g 44 2) q) (hqb : kx_qb q) (k : Nat) (hkm : k < m) (hK : kx_K s k (K k) (K k)) {P : Option Value → kv_H → Prop} (hP : ∀ f' : Nat → Int32, P (some (.long (kx_lf (fun a b => decide (a < s) && decide (kx_lsn F1 q (K k) a b ∨ kx_lsn F1 q (K k) b a)) 36))) (kv_wd (kv_uf g 11 f') w)) : ∀ (nz a : Nat) (f : Nat → Int32) (x6 : Option Value), a + nz = s → kx_V E (d + 7) 67 5 [some (.ref 43), some (.ref 1), some (.ref (14 + k)), some (.long (kx_lf (fun a b => decide (a < s) && decide (kx_lsn F1 q (K k) a b ∨ kx_lsn F1 q (K k) b a)) (6 * a))), none, some (.int (nI a)), x6] [] (kv_wd (kv_uf g 11 f) w) P := by
  have s6 := hX.1.2.1
  intro nz
  induction nz with
  | zero =>
    intro a f x6 ha
    have hkN : a = s := by omega
    refine kx_st 3 (pc' := 11) (L' := [some (.ref 43), some (.ref 1), some (.ref (14 + k)), some (.long (kx_lf (fun a b => decide (a < s) && decide (kx_lsn F1 q (K k) a b ∨ kx_lsn F1 q (K k) b a)) (6 * a))), none, some (.int (nI a)), x6]) (st' := [.int ((kv_uf g 11 f) 1 0), .int (nI a)]) (h' := kv_wd (kv_uf g 11 f) w) rfl ?_
    refine kx_bi (t := 76) rfl rfl (fun (h11 : (kv_uf g 11 f) 1 0 ≤ nI a) => ?_) (fun (h11 : ¬ ((kv_uf g 11 f) 1 0 ≤ nI a)) => ?_)
    · refine kx_st 1 (pc' := 77) (L' := [some (.ref 43), some (.ref 1), some (.ref (14 + k)), some (.long (kx_lf (fun a b => decide (a < s) && decide (kx_lsn F1 q (K k) a b ∨ kx_lsn F1 q (K k) b a)) (6 * a))), none, some (.int (nI a)), x6]) (st' := [.long (kx_lf (fun a b => decide (a < s) && decide (kx_lsn F1 q (K k) a b ∨ kx_lsn F1 q (K k) b a)) (6 * a))]) (h' := kv_wd (kv_uf g 11 f) w) rfl ?_
      refine kx_ret (v := some (.long (kx_lf (fun a b => decide (a < s) && decide (kx_lsn F1 q (K k) a b ∨ kx_lsn F1 q (K k) b a)) (6 * a)))) rfl ?_
      subst hkN
      rw [kx_lf_sk2 (s := a) (fun x y z => by rw [Bool.and_eq_true] at z; exact of_decide_eq_true z.1) (36 - 6 * a) (6 * a) (by omega) (by omega)]
      exact hP f
    · exact absurd (by rw [show (kv_uf g 11 f) 1 0 = nI s from hX.2.1.1]; exact nI_le (by omega) (by omega)) h11
  | succ nz ih =>
    intro a f x6 ha
    refine kx_st 3 (pc' := 11) (L' := [some (.ref 43), some (.ref 1), some (.ref (14 + k)), some (.long (kx_lf (fun a b => decide (a < s) && decide (kx_lsn F1 q (K k) a b ∨ kx_lsn F1 q (K k) b a)) (6 * a))), none, some (.int (nI a)), x6]) (st' := [.int ((kv_uf g 11 f) 1 0), .int (nI a)]) (h' := kv_wd (kv_uf g 11 f) w) rfl ?_
    refine kx_bi (t := 76) rfl rfl (fun (h11 : (kv_uf g 11 f) 1 0 ≤ nI a) => ?_) (fun (h11 : ¬ ((kv_uf g 11 f) 1 0 ≤ nI a)) => ?_)
    · exact absurd h11 (by rw [show (kv_uf g 11 f) 1 0 = nI s from hX.2.1.1]; exact nI_ge (a := a) (b := s) (by omega) (by omega))
    · refine kx_st 0 (pc' := 14) (L' := [some (.ref 43), some (.ref 1), some (.ref (14 + k)), some (.long (kx_lf (fun a b => decide (a < s) && decide (kx_lsn F1 q (K k) a b ∨ kx_lsn F1 q (K k) b a)) (6 * a))), none, some (.int (nI a)), x6]) (st' := []) (h' := kv_wd (kv_uf g 11 f) w) rfl ?_
      refine kx_st 2 (pc' := 17) (L' := [some (.ref 43), some (.ref 1), some (.ref (14 + k)), some (.long (kx_lf (fun a b => decide (a < s) && decide (kx_lsn F1 q (K k) a b ∨ kx_lsn F1 q (K k) b a)) (6 * a))), none, some (.int (nI a)), some (.int 0)]) (st' := []) (h' := kv_wd (kv_uf g 11 f) w) rfl ?_
      refine lp_wyin hX q hq hqb k hkm hK a (by omega) (fun f2 => ?_) a 0 f (by omega)
      refine kx_st 2 (pc' := 5) (L' := [some (.ref 43), some (.ref 1), some (.ref (14 + k)), some (.long (kx_lf (fun a b => decide (a < s) && decide (kx_lsn F1 q (K k) a b ∨ kx_lsn F1 q (K k) b a)) (6 * a + a))), none, some (.int (nI a + 1)), some (.int (nI a))]) (st' := []) (h' := kv_wd (kv_uf g 11 f2) w) rfl ?_
      rw [kx_lf_sk (6 - a) a (by omega) (by omega), ← nI_succ]
      exact ih (a + 1) f2 _ (by omega)
set_option maxRecDepth 100000 in
theorem ev_waysOf {E : kv_V} {d : Nat} {g : kv_S} {w : kv_W} {F0 F1 : kx_FF} {s t m : Nat} {K : Nat → Nat → Int32} (hX : kx_X F0 F1 s t m K g) (q : kx_Q) (hq : kx_hq (g 45) (g 46) (g 44 2) q) (hqb : kx_qb q) (k : Nat) (hkm : k < m) (hK : kx_K s k (K k) (K k)) : ∃ f' : Nat → Int32, kv_ev E (d + 8) 67 [.ref 43, .ref 1, .ref (14 + k)] (kv_wd g w) (some (.long (kx_lf (fun a b => decide (a < s) && decide (kx_lsn F1 q (K k) a b ∨ kx_lsn F1 q (K k) b a)) 36))) (kv_wd (kv_uf g 11 f') w) := by
  obtain ⟨v, hf, he, rfl, f', rfl⟩ := kx_evP (E := E) (d := d + 7) (y := 67) (h := kv_wd g w) (as := [.ref 43, .ref 1, .ref (14 + k)]) (P := fun v h => v = (some (.long (kx_lf (fun a b => decide (a < s) && decide (kx_lsn F1 q (K k) a b ∨ kx_lsn F1 q (K k) b a)) 36)) : Option Value) ∧ ∃ f' : Nat → Int32, h = kv_wd (kv_uf g 11 f') w) (by decide) (Nat.le_of_ble_eq_true rfl) (by
    refine kx_st 0 (pc' := 0) (L' := [some (.ref 43), some (.ref 1), some (.ref (14 + k)), none, none, none, none]) (st' := []) (h' := kv_wd g w) rfl ?_
    refine kx_st 4 (pc' := 5) (L' := [some (.ref 43), some (.ref 1), some (.ref (14 + k)), some (.long 0), none, some (.int 0), none]) (st' := []) (h' := kv_wd g w) rfl ?_
    have hh := lp_wyout (E := E) (d := d) (g := g) (w := w) hX q hq hqb k hkm hK (P := fun v h => v = (some (.long (kx_lf (fun a b => decide (a < s) && decide (kx_lsn F1 q (K k) a b ∨ kx_lsn F1 q (K k) b a)) 36)) : Option Value) ∧ ∃ f' : Nat → Int32, h = kv_wd (kv_uf g 11 f') w) (fun f' => ⟨rfl, f', rfl⟩) s 0 (g 11) none (by omega)
    rw [kv_uf_id] at hh
    exact hh)
  exact ⟨f', he⟩
set_option maxRecDepth 100000 in
theorem lp_findWays {E : kv_V} {d : Nat} {g : kv_S} {w2 : Nat → Nat → Option Nat} {F0 F1 : kx_FF} {s t m : Nat} {K : Nat → Nat → Int32} (hX : kx_X F0 F1 s t m K g) (hq5 : ∀ j, j < 8 → w2 5 j = some (14 + j)) (q : kx_Q) (hq : kx_hq (g 45) (g 46) (g 44 2) q) (hqb : kx_qb q) (hKB : ∀ k, k < m → kx_K s k (K k) (K k)) {P : Option Value → kv_H → Prop} (hP : ∀ (f : Nat → Int32) (wl : Nat → Int64), (∀ j, j < m → wl j = (fun j => kx_lf (fun a b => decide (a < s) && decide (kx_lsn F1 q (K j) a b ∨ kx_lsn F1 q (K j) b a)) 36) j) → P none (kv_wd (kv_uf g 11 f) (wl, w2))) : ∀ (nz i : Nat) (f : Nat → Int32) (wl : Nat → Int64), i + nz = m → (∀ j, j < i → wl j = (fun j => kx_lf (fun a b => decide (a < s) && decide (kx_lsn F1 q (K j) a b ∨ kx_lsn F1 q (K j) b a)) 36) j) → kx_V E (d + 8) 66 2 [some (.ref 43), some (.ref 1), some (.int (nI i))] [] (kv_wd (kv_uf g 11 f) (wl, w2)) P := by
  have m8 := hX.1.2.2.2
  intro nz
  induction nz with
  | zero =>
    intro i f wl hi h1
    have hkN : i = m := by omega
    refine kx_st 3 (pc' := 7) (L' := [some (.ref 43), some (.ref 1), some (.int (nI i))]) (st' := [.int ((kv_uf g 11 f) 1 4), .int (nI i)]) (h' := kv_wd (kv_uf g 11 f) (wl, w2)) rfl ?_
    refine kx_bi (t := 42) rfl rfl (fun (h7 : (kv_uf g 11 f) 1 4 ≤ nI i) => ?_) (fun (h7 : ¬ ((kv_uf g 11 f) 1 4 ≤ nI i)) => ?_)
    · refine kx_ret (v := none) rfl ?_
      subst hkN
      exact hP f wl h1
    · exact absurd (by rw [show (kv_uf g 11 f) 1 4 = nI m from hX.2.1.2.2]; exact nI_le (by omega) (by omega)) h7
  | succ nz ih =>
    intro i f wl hi h1
    have hi8 : i < 8 := by omega
    refine kx_st 3 (pc' := 7) (L' := [some (.ref 43), some (.ref 1), some (.int (nI i))]) (st' := [.int ((kv_uf g 11 f) 1 4), .int (nI i)]) (h' := kv_wd (kv_uf g 11 f) (wl, w2)) rfl ?_
    refine kx_bi (t := 42) rfl rfl (fun (h7 : (kv_uf g 11 f) 1 4 ≤ nI i) => ?_) (fun (h7 : ¬ ((kv_uf g 11 f) 1 4 ≤ nI i)) => ?_)
    · exact absurd h7 (by rw [show (kv_uf g 11 f) 1 4 = nI m from hX.2.1.2.2]; exact nI_ge (a := i) (b := m) (by omega) (by omega))
    · refine kx_st 0 (pc' := 10) (L' := [some (.ref 43), some (.ref 1), some (.int (nI i))]) (st' := []) (h' := kv_wd (kv_uf g 11 f) (wl, w2)) rfl ?_
      refine kx_st 4 (pc' := 16) (L' := [some (.ref 43), some (.ref 1), some (.int (nI i))]) (st' := [.int 8, .int (nI i)]) (h' := kv_wd (kv_uf g 11 f) (wl, w2)) rfl ?_
      refine kx_bi (t := 42) rfl rfl (fun (h16 : 8 ≤ nI i) => ?_) (fun (h16 : ¬ (8 ≤ nI i)) => ?_)
      · exact absurd h16 (nI_ge (a := i) (b := 8) (by omega) (by omega))
      · refine kx_st 0 (pc' := 19) (L' := [some (.ref 43), some (.ref 1), some (.int (nI i))]) (st' := []) (h' := kv_wd (kv_uf g 11 f) (wl, w2)) rfl ?_
        refine kx_st 8 (pc' := 31) (L' := [some (.ref 43), some (.ref 1), some (.int (nI i))]) (st' := [.int (nI i), .ref 5, .ref 1, .ref 43, .int (nI i), .ref 47]) (h' := kv_wd (kv_uf g 11 f) (wl, w2)) rfl ?_
        refine kx_aa (t := 2) (k := i) (b := (14 + i)) rfl rfl (by decide) (by decide) rfl (by omega) (by decide) (hq5 _ (by omega)) ?_
        obtain ⟨f32, e32⟩ := ev_waysOf (E := E) (d := d) (g := kv_uf g 11 f) (w := (wl, w2)) (kx_X_cg (fun b hb => kv_uf_ne (by omega)) hX) q hq hqb i (by omega) (hKB i (by omega))
        refine kx_call (z := 67) (as := [.ref 43, .ref 1, .ref (14 + i)]) (rest := [.int (nI i), .ref 47]) (v := some (.long (kx_lf (fun a b => decide (a < s) && decide (kx_lsn F1 q (K i) a b ∨ kx_lsn F1 q (K i) b a)) 36))) (h1 := kv_wd (kv_uf (kv_uf g 11 f) 11 f32) (wl, w2)) rfl e32 ?_
        refine kx_st 0 (pc' := 35) (L' := [some (.ref 43), some (.ref 1), some (.int (nI i))]) (st' := [.long (kx_lf (fun a b => decide (a < s) && decide (kx_lsn F1 q (K i) a b ∨ kx_lsn F1 q (K i) b a)) 36), .int (nI i), .ref 47]) (h' := kv_wd (kv_uf (kv_uf g 11 f) 11 f32) (wl, w2)) rfl ?_
        refine kx_ls (k := i) rfl rfl (by omega) ?_
        refine kx_st 2 (pc' := 2) (L' := [some (.ref 43), some (.ref 1), some (.int ((nI i) + 1))]) (st' := []) (h' := kv_wd (kv_uf (kv_uf g 11 f) 11 f32) (vp_updL (wl, w2).1 i (kx_lf (fun a b => decide (a < s) && decide (kx_lsn F1 q (K i) a b ∨ kx_lsn F1 q (K i) b a)) 36), (wl, w2).2)) rfl ?_
        rw [kv_uf_uf, ← nI_succ]
        refine ih (i + 1) f32 _ (by omega) (fun j hj => ?_)
        show vp_updL wl i _ j = _
        unfold vp_updL
        by_cases hji : j = i
        · rw [if_pos hji, hji]
        · rw [if_neg hji]; exact h1 j (by omega)
set_option maxRecDepth 100000 in
theorem ev_findWays {E : kv_V} {d : Nat} {g : kv_S} {wl0 : Nat → Int64} {w2 : Nat → Nat → Option Nat} {F0 F1 : kx_FF} {s t m : Nat} {K : Nat → Nat → Int32} (hX : kx_X F0 F1 s t m K g) (hq5 : ∀ j, j < 8 → w2 5 j = some (14 + j)) (q : kx_Q) (hq : kx_hq (g 45) (g 46) (g 44 2) q) (hqb : kx_qb q) (hKB : ∀ k, k < m → kx_K s k (K k) (K k)) : ∃ (f : Nat → Int32) (wl : Nat → Int64), kv_ev E (d + 9) 66 [.ref 43, .ref 1] (kv_wd g (wl0, w2)) none (kv_wd (kv_uf g 11 f) (wl, w2)) ∧ ∀ j, j < m → wl j = (fun j => kx_lf (fun a b => decide (a < s) && decide (kx_lsn F1 q (K j) a b ∨ kx_lsn F1 q (K j) b a)) 36) j := by
  obtain ⟨v, hf, he, rfl, f, wl, rfl, hh⟩ := kx_evP (E := E) (d := d + 8) (y := 66) (h := kv_wd g (wl0, w2)) (as := [.ref 43, .ref 1]) (P := fun v h => v = none ∧ ∃ (f : Nat → Int32) (wl : Nat → Int64), h = kv_wd (kv_uf g 11 f) (wl, w2) ∧ ∀ j, j < m → wl j = (fun j => kx_lf (fun a b => decide (a < s) && decide (kx_lsn F1 q (K j) a b ∨ kx_lsn F1 q (K j) b a)) 36) j) (by decide) (Nat.le_of_ble_eq_true rfl) (by
    refine kx_st 2 (pc' := 2) (L' := [some (.ref 43), some (.ref 1), some (.int (nI 0))]) (st' := []) (h' := kv_wd g (wl0, w2)) rfl ?_
    have hh := lp_findWays (E := E) (d := d) (g := g) (w2 := w2) hX hq5 q hq hqb hKB (P := fun v h => v = none ∧ ∃ (f : Nat → Int32) (wl : Nat → Int64), h = kv_wd (kv_uf g 11 f) (wl, w2) ∧ ∀ j, j < m → wl j = (fun j => kx_lf (fun a b => decide (a < s) && decide (kx_lsn F1 q (K j) a b ∨ kx_lsn F1 q (K j) b a)) 36) j) (fun f wl h1 => ⟨rfl, f, wl, rfl, h1⟩) m 0 (g 11) wl0 (by omega) (fun j hj => by omega)
    rw [kv_uf_id] at hh
    exact hh)
  exact ⟨f, wl, he, hh⟩
theorem kx_pw : ∀ tt, tt < 64 → ∀ a, a < 6 → ∀ b, b < 6 → ((((nI tt >>> (nI a &&& 31)) &&& (nI tt >>> (nI b &&& 31))) &&& 1) = 1 ↔ (tt.testBit a && tt.testBit b) = true) := by decide +kernel
set_option maxRecDepth 100000 in
theorem lp_pwin {E : kv_V} {d : Nat} {g : kv_S} {w : kv_W} (tt : Nat) (h64 : tt < 64) (a : Nat) (ha : a < 6) {P : Option Value → kv_H → Prop} (hP : kx_V E d 68 52 [some (.int (nI tt)), some (.long (kx_lf (fun a b => tt.testBit a && tt.testBit b) (6 * a + a))), none, some (.int (nI a)), some (.int (nI a))] [] (kv_wd g w) P) : ∀ (nz b : Nat), b + nz = a → kx_V E d 68 13 [some (.int (nI tt)), some (.long (kx_lf (fun a b => tt.testBit a && tt.testBit b) (6 * a + b))), none, some (.int (nI a)), some (.int (nI b))] [] (kv_wd g w) P := by
  intro nz
  induction nz with
  | zero =>
    intro b hb
    have hkN : b = a := by omega
    refine kx_st 2 (pc' := 16) (L' := [some (.int (nI tt)), some (.long (kx_lf (fun a b => tt.testBit a && tt.testBit b) (6 * a + b))), none, some (.int (nI a)), some (.int (nI b))]) (st' := [.int (nI a), .int (nI b)]) (h' := kv_wd g w) rfl ?_
    refine kx_bi (t := 52) rfl rfl (fun (h16 : nI a ≤ nI b) => ?_) (fun (h16 : ¬ (nI a ≤ nI b)) => ?_)
    · subst hkN
      exact hP
    · exact absurd (nI_le (a := a) (b := b) (by omega) (by omega)) h16
  | succ nz ih =>
    intro b hb
    have hpw := kx_pw tt h64 a ha b (by omega)
    refine kx_st 2 (pc' := 16) (L' := [some (.int (nI tt)), some (.long (kx_lf (fun a b => tt.testBit a && tt.testBit b) (6 * a + b))), none, some (.int (nI a)), some (.int (nI b))]) (st' := [.int (nI a), .int (nI b)]) (h' := kv_wd g w) rfl ?_
    refine kx_bi (t := 52) rfl rfl (fun (h16 : nI a ≤ nI b) => ?_) (fun (h16 : ¬ (nI a ≤ nI b)) => ?_)
    · exact absurd h16 (nI_ge (a := b) (b := a) (by omega) (by omega))
    · refine kx_st 0 (pc' := 19) (L' := [some (.int (nI tt)), some (.long (kx_lf (fun a b => tt.testBit a && tt.testBit b) (6 * a + b))), none, some (.int (nI a)), some (.int (nI b))]) (st' := []) (h' := kv_wd g w) rfl ?_
      refine kx_st 10 (pc' := 30) (L' := [some (.int (nI tt)), some (.long (kx_lf (fun a b => tt.testBit a && tt.testBit b) (6 * a + b))), none, some (.int (nI a)), some (.int (nI b))]) (st' := [.int 1, .int ((((nI tt) >>> ((nI a) &&& 31)) &&& ((nI tt) >>> ((nI b) &&& 31))) &&& 1)]) (h' := kv_wd g w) rfl ?_
      refine kx_bi (t := 46) rfl rfl (fun (h30 : ¬ (((nI tt) >>> ((nI a) &&& 31)) &&& ((nI tt) >>> ((nI b) &&& 31))) &&& 1 = 1) => ?_) (fun (h30 : ¬ (¬ (((nI tt) >>> ((nI a) &&& 31)) &&& ((nI tt) >>> ((nI b) &&& 31))) &&& 1 = 1)) => ?_)
      · refine kx_st 2 (pc' := 13) (L' := [some (.int (nI tt)), some (.long (kx_lf (fun a b => tt.testBit a && tt.testBit b) (6 * a + b))), none, some (.int (nI a)), some (.int ((nI b) + 1))]) (st' := []) (h' := kv_wd g w) rfl ?_
        have hh := ih (b + 1) (by omega)
        rw [← Nat.add_assoc, kx_lf_n (a := a) (b := b) (by omega) (by omega) (fun z => h30 (hpw.mpr z.2)), nI_succ] at hh
        exact hh
      · refine kx_st 0 (pc' := 33) (L' := [some (.int (nI tt)), some (.long (kx_lf (fun a b => tt.testBit a && tt.testBit b) (6 * a + b))), none, some (.int (nI a)), some (.int (nI b))]) (st' := []) (h' := kv_wd g w) rfl ?_
        refine kx_st 14 (pc' := 13) (L' := [some (.int (nI tt)), some (.long ((kx_lf (fun a b => tt.testBit a && tt.testBit b) (6 * a + b)) ||| ((1 : Int64) <<< (((1 <<< ((nI a) &&& 31)) ||| (1 <<< ((nI b) &&& 31)) : Int32).toInt64 &&& 63)))), none, some (.int (nI a)), some (.int ((nI b) + 1))]) (st' := []) (h' := kv_wd g w) rfl ?_
        have hh := ih (b + 1) (by omega)
        rw [← Nat.add_assoc, kx_lf_y (a := a) (b := b) (by omega) (by omega) (by omega) (hpw.mp (Classical.not_not.mp h30)), nI_succ] at hh
        exact hh
set_option maxRecDepth 100000 in
theorem lp_pwout {E : kv_V} {d : Nat} {g : kv_S} {w : kv_W} (tt : Nat) (h64 : tt < 64) {P : Option Value → kv_H → Prop} (hP : P (some (.long (kx_lf (fun a b => tt.testBit a && tt.testBit b) 36))) (kv_wd g w)) : ∀ (nz a : Nat) (x6 : Option Value), a + nz = 6 → kx_V E d 68 4 [some (.int (nI tt)), some (.long (kx_lf (fun a b => tt.testBit a && tt.testBit b) (6 * a))), none, some (.int (nI a)), x6] [] (kv_wd g w) P := by
  intro nz
  induction nz with
  | zero =>
    intro a x6 ha
    have hkN : a = 6 := by omega
    refine kx_st 2 (pc' := 7) (L' := [some (.int (nI tt)), some (.long (kx_lf (fun a b => tt.testBit a && tt.testBit b) (6 * a))), none, some (.int (nI a)), x6]) (st' := [.int 6, .int (nI a)]) (h' := kv_wd g w) rfl ?_
    refine kx_bi (t := 58) rfl rfl (fun (h7 : 6 ≤ nI a) => ?_) (fun (h7 : ¬ (6 ≤ nI a)) => ?_)
    · refine kx_st 1 (pc' := 59) (L' := [some (.int (nI tt)), some (.long (kx_lf (fun a b => tt.testBit a && tt.testBit b) (6 * a))), none, some (.int (nI a)), x6]) (st' := [.long (kx_lf (fun a b => tt.testBit a && tt.testBit b) (6 * a))]) (h' := kv_wd g w) rfl ?_
      refine kx_ret (v := some (.long (kx_lf (fun a b => tt.testBit a && tt.testBit b) (6 * a)))) rfl ?_
      subst hkN
      exact hP
    · exact absurd (nI_le (a := 6) (b := a) (by omega) (by omega)) h7
  | succ nz ih =>
    intro a x6 ha
    refine kx_st 2 (pc' := 7) (L' := [some (.int (nI tt)), some (.long (kx_lf (fun a b => tt.testBit a && tt.testBit b) (6 * a))), none, some (.int (nI a)), x6]) (st' := [.int 6, .int (nI a)]) (h' := kv_wd g w) rfl ?_
    refine kx_bi (t := 58) rfl rfl (fun (h7 : 6 ≤ nI a) => ?_) (fun (h7 : ¬ (6 ≤ nI a)) => ?_)
    · exact absurd h7 (nI_ge (a := a) (b := 6) (by omega) (by omega))
    · refine kx_st 0 (pc' := 10) (L' := [some (.int (nI tt)), some (.long (kx_lf (fun a b => tt.testBit a && tt.testBit b) (6 * a))), none, some (.int (nI a)), x6]) (st' := []) (h' := kv_wd g w) rfl ?_
      refine kx_st 2 (pc' := 13) (L' := [some (.int (nI tt)), some (.long (kx_lf (fun a b => tt.testBit a && tt.testBit b) (6 * a))), none, some (.int (nI a)), some (.int 0)]) (st' := []) (h' := kv_wd g w) rfl ?_
      refine lp_pwin tt h64 a (by omega) ?_ a 0 (by omega)
      refine kx_st 2 (pc' := 4) (L' := [some (.int (nI tt)), some (.long (kx_lf (fun a b => tt.testBit a && tt.testBit b) (6 * a + a))), none, some (.int (nI a + 1)), some (.int (nI a))]) (st' := []) (h' := kv_wd g w) rfl ?_
      rw [kx_lf_sk (6 - a) a (by omega) (by omega), ← nI_succ]
      exact ih (a + 1) _ (by omega)
set_option maxRecDepth 100000 in
theorem ev_pairsWithin {E : kv_V} {d : Nat} {g : kv_S} {w : kv_W} (tt : Nat) (h64 : tt < 64) : kv_ev E (d + 1) 68 [.int (nI tt)] (kv_wd g w) (some (.long (kx_lf (fun a b => tt.testBit a && tt.testBit b) 36))) (kv_wd g w) := by
  refine kx_ev (d := d + 0) (by decide) (Nat.le_of_ble_eq_true rfl) ?_
  refine kx_st 0 (pc' := 0) (L' := [some (.int (nI tt)), none, none, none, none]) (st' := []) (h' := kv_wd g w) rfl ?_
  refine kx_st 4 (pc' := 4) (L' := [some (.int (nI tt)), some (.long 0), none, some (.int 0), none]) (st' := []) (h' := kv_wd g w) rfl ?_
  exact lp_pwout tt h64 ⟨rfl, rfl⟩ 6 0 none (by omega)
