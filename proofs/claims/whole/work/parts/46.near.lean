/-! NEAREST: the first two with least misses; who holds what -/
theorem kx_d6 : ∀ n, n < 36 → nI n / 6 = nI (n / 6) ∧ nI n % 6 = nI (n % 6) := by decide +kernel
def kx_nr (F1 : kx_FF) (t : Nat) (q : kx_Q) (K : Nat → Int32) (s : Nat) : Nat → Int32 × Int32
  | 0 => (-1, 0)
  | n + 1 => if n / 6 < s ∧ n % 6 < s ∧ n / 6 ≠ n % 6 ∧ kx_cn F1 t q K (n / 6) (n % 6) ∧ ((kx_nr F1 t q K s n).1 < 0 ∨ kx_mq q K (n / 6) (n % 6) < (kx_nr F1 t q K s n).2) then (10 * nI (n / 6) + nI (n % 6), kx_mq q K (n / 6) (n % 6)) else kx_nr F1 t q K s n
theorem kx_nr_y {F1 : kx_FF} {t : Nat} {q : kx_Q} {K : Nat → Int32} {s n a b : Nat} (ha : n / 6 = a) (hb : n % 6 = b) (h1 : a < s) (h2 : b < s) (h3 : a ≠ b) (h4 : kx_cn F1 t q K a b) (h5 : (kx_nr F1 t q K s n).1 < 0 ∨ kx_mq q K a b < (kx_nr F1 t q K s n).2) : kx_nr F1 t q K s (n + 1) = (10 * nI a + nI b, kx_mq q K a b) := by
  subst ha hb
  rw [kx_nr, if_pos ⟨h1, h2, h3, h4, h5⟩]
theorem kx_nr_n {F1 : kx_FF} {t : Nat} {q : kx_Q} {K : Nat → Int32} {s n a b : Nat} (ha : n / 6 = a) (hb : n % 6 = b) (h : ¬ (a < s ∧ b < s ∧ a ≠ b ∧ kx_cn F1 t q K a b ∧ ((kx_nr F1 t q K s n).1 < 0 ∨ kx_mq q K a b < (kx_nr F1 t q K s n).2))) : kx_nr F1 t q K s (n + 1) = kx_nr F1 t q K s n := by
  subst ha hb
  rw [kx_nr, if_neg h]
theorem kx_nr_sk {F1 : kx_FF} {t : Nat} {q : kx_Q} {K : Nat → Int32} {s a : Nat} : ∀ n b, b + n = 6 → s ≤ b → kx_nr F1 t q K s (6 * a + b) = kx_nr F1 t q K s (6 * (a + 1)) := by
  intro n
  induction n with
  | zero => intro b hb _; rw [show 6 * a + b = 6 * (a + 1) by omega]
  | succ n ih =>
    intro b hb hs
    rw [← ih (b + 1) (by omega) (by omega)]
    exact (kx_nr_n (a := a) (b := b) (by omega) (by omega) (fun z => by have := z.2.1; omega)).symm
theorem kx_nr_sk2 {F1 : kx_FF} {t : Nat} {q : kx_Q} {K : Nat → Int32} {s : Nat} : ∀ n b, b + n = 36 → 6 * s ≤ b → kx_nr F1 t q K s b = kx_nr F1 t q K s 36 := by
  intro n
  induction n with
  | zero => intro b hb _; rw [show b = 36 by omega]
  | succ n ih =>
    intro b hb hs
    rw [← ih (b + 1) (by omega) (by omega)]
    exact (kx_nr_n (a := b / 6) (b := b % 6) rfl rfl (fun z => by have := z.1; omega)).symm
theorem kx_nr_ge {F1 : kx_FF} {t : Nat} {q : kx_Q} {K : Nat → Int32} {s : Nat} (hs : s ≤ 6) : ∀ n, n ≤ 36 → ((kx_nr F1 t q K s n).1 = -1 ∧ ∀ c, c < n → ¬ (c / 6 < s ∧ c % 6 < s ∧ c / 6 ≠ c % 6 ∧ kx_cn F1 t q K (c / 6) (c % 6))) ∨ ∃ a b, a < s ∧ b < s ∧ a ≠ b ∧ kx_cn F1 t q K a b ∧ (kx_nr F1 t q K s n).1 = nI (10 * a + b) := by
  intro n
  induction n with
  | zero => intro _; exact Or.inl ⟨rfl, fun c hc => by omega⟩
  | succ n ih =>
    intro hn
    by_cases h : n / 6 < s ∧ n % 6 < s ∧ n / 6 ≠ n % 6 ∧ kx_cn F1 t q K (n / 6) (n % 6) ∧ ((kx_nr F1 t q K s n).1 < 0 ∨ kx_mq q K (n / 6) (n % 6) < (kx_nr F1 t q K s n).2)
    · refine Or.inr ⟨n / 6, n % 6, h.1, h.2.1, h.2.2.1, h.2.2.2.1, ?_⟩
      rw [kx_nr_y rfl rfl h.1 h.2.1 h.2.2.1 h.2.2.2.1 h.2.2.2.2]
      show (10 : Int32) * nI (n / 6) + nI (n % 6) = _
      rw [show (10 : Int32) = nI 10 from rfl, kx_nmul, kx_nadd]
    · rw [kx_nr_n rfl rfl h]
      rcases ih (by omega) with ⟨h1, h2⟩ | h3
      · refine Or.inl ⟨h1, fun c hc => ?_⟩
        by_cases hcn : c = n
        · subst hcn
          intro z
          exact h ⟨z.1, z.2.1, z.2.2.1, z.2.2.2, Or.inl (by rw [h1]; decide)⟩
        · exact h2 c (by omega)
      · exact Or.inr h3
/-- whether there are two at all -/
theorem kx_nr_iff {F1 : kx_FF} {t : Nat} {q : kx_Q} {K : Nat → Int32} {s : Nat} (hs : s ≤ 6) : 0 ≤ (kx_nr F1 t q K s 36).1 ↔ ∃ a b, a < s ∧ b < s ∧ a ≠ b ∧ kx_cn F1 t q K a b := by
  rcases kx_nr_ge (F1 := F1) (t := t) (q := q) (K := K) hs 36 (by omega) with ⟨h1, h2⟩ | ⟨a, b, h1, h2, h3, h4, h5⟩
  · rw [h1]
    refine ⟨fun z => absurd z (by decide), fun ⟨a, b, z1, z2, z3, z4⟩ => ?_⟩
    refine absurd ?_ (h2 (6 * a + b) (by omega))
    rw [show (6 * a + b) / 6 = a by omega, show (6 * a + b) % 6 = b by omega]
    exact ⟨z1, z2, z3, z4⟩
  · exact ⟨fun _ => ⟨a, b, h1, h2, h3, h4⟩, fun _ => by rw [h5]; exact nI_pos' (by omega)⟩
section KNR
variable {E : kv_V} {d : Nat} {g : kv_S} {w : kv_W} {F0 F1 : kx_FF} {s t m : Nat} {K : Nat → Nat → Int32}
theorem ev_mPerN (h : g 66 3 = nI s) (hs : s ≤ 6) (a : Nat) (ha : a < 6) : kv_ev E (d + 2) 138 [.ref 65, .int (nI a)] (kv_wd g w) (some (.int (kx_b (a < s)))) (kv_wd g w) := by
  have := ev_mPersonS (E := E) (d := d) (w := w) h hs (nI a)
  rw [kx_b_congr (show (0 ≤ nI a ∧ nI a < nI s) ↔ a < s from ⟨fun z => (nI_ltI (by omega) (by omega)).mp z.2, fun z => ⟨nI_pos' (by omega), nI_lt z (by omega)⟩⟩)] at this
  exact this
end KNR
set_option maxRecDepth 100000 in
theorem lp_mnearest {E : kv_V} {d : Nat} {g : kv_S} {w : kv_W} {F0 F1 : kx_FF} {s t m : Nat} {K : Nat → Nat → Int32} (hM : kx_M F0 F1 s t m K (g 66)) (q : kx_Q) (hq : kx_hmq (g 66) q) (k : Nat) (hkm : k < m) (hK : kx_K s k (K k) (K k)) {P : Option Value → kv_H → Prop} (hP : ∀ f' : Nat → Int32, (∀ k, (k < 7 ∨ 14 < k) → f' k = g 65 k) → P (some (.int (kx_nr F1 t q (K k) s 36).1)) (kv_wd (kv_uf g 65 f') w)) : ∀ (nz n : Nat) (f : Nat → Int32) (x5 x6 : Option Value), n + nz = 36 → (∀ k, (k < 7 ∨ 14 < k) → f k = g 65 k) → kx_V E (d + 101) 176 7 [some (.ref 65), some (.int (nI k)), some (.int ((kx_nr F1 t q (K k) s n).1)), some (.int ((kx_nr F1 t q (K k) s n).2)), some (.int (nI n)), x5, x6] [] (kv_wd (kv_uf g 65 f) w) P := by
  have s6 := hM.1.2.1
  intro nz
  induction nz with
  | zero =>
    intro n f x5 x6 hn hf
    have hkN : n = 36 := by omega
    refine kx_st 2 (pc' := 11) (L' := [some (.ref 65), some (.int (nI k)), some (.int ((kx_nr F1 t q (K k) s n).1)), some (.int ((kx_nr F1 t q (K k) s n).2)), some (.int (nI n)), x5, x6]) (st' := [.int 36, .int (nI n)]) (h' := kv_wd (kv_uf g 65 f) w) rfl ?_
    refine kx_bi (t := 107) rfl rfl (fun (h11 : 36 ≤ nI n) => ?_) (fun (h11 : ¬ (36 ≤ nI n)) => ?_)
    · refine kx_st 1 (pc' := 108) (L' := [some (.ref 65), some (.int (nI k)), some (.int ((kx_nr F1 t q (K k) s n).1)), some (.int ((kx_nr F1 t q (K k) s n).2)), some (.int (nI n)), x5, x6]) (st' := [.int ((kx_nr F1 t q (K k) s n).1)]) (h' := kv_wd (kv_uf g 65 f) w) rfl ?_
      refine kx_ret (v := some (.int ((kx_nr F1 t q (K k) s n).1))) rfl ?_
      subst hkN
      exact hP f hf
    · exact absurd (nI_le (a := 36) (b := n) (by omega) (by omega)) h11
  | succ nz ih =>
    intro n f x5 x6 hn hf
    have hn36 : n < 36 := by omega
    have d6 := kx_d6 n hn36
    refine kx_st 2 (pc' := 11) (L' := [some (.ref 65), some (.int (nI k)), some (.int ((kx_nr F1 t q (K k) s n).1)), some (.int ((kx_nr F1 t q (K k) s n).2)), some (.int (nI n)), x5, x6]) (st' := [.int 36, .int (nI n)]) (h' := kv_wd (kv_uf g 65 f) w) rfl ?_
    refine kx_bi (t := 107) rfl rfl (fun (h11 : 36 ≤ nI n) => ?_) (fun (h11 : ¬ (36 ≤ nI n)) => ?_)
    · exact absurd h11 (nI_ge (a := n) (b := 36) (by omega) (by omega))
    · refine kx_st 0 (pc' := 14) (L' := [some (.ref 65), some (.int (nI k)), some (.int ((kx_nr F1 t q (K k) s n).1)), some (.int ((kx_nr F1 t q (K k) s n).2)), some (.int (nI n)), x5, x6]) (st' := []) (h' := kv_wd (kv_uf g 65 f) w) rfl ?_
      refine kx_st 2 (pc' := 18) (L' := [some (.ref 65), some (.int (nI k)), some (.int ((kx_nr F1 t q (K k) s n).1)), some (.int ((kx_nr F1 t q (K k) s n).2)), some (.int (nI n)), x5, x6]) (st' := [.int 6, .int (nI n)]) (h' := kv_wd (kv_uf g 65 f) w) rfl ?_
      refine kx_dv rfl (by decide) ?_
      refine kx_st 3 (pc' := 25) (L' := [some (.ref 65), some (.int (nI k)), some (.int ((kx_nr F1 t q (K k) s n).1)), some (.int ((kx_nr F1 t q (K k) s n).2)), some (.int (nI n)), some (.int ((nI n) / 6)), x6]) (st' := [.int 6, .int (nI n)]) (h' := kv_wd (kv_uf g 65 f) w) rfl ?_
      refine kx_rm rfl (by decide) ?_
      refine kx_st 1 (pc' := 28) (L' := [some (.ref 65), some (.int (nI k)), some (.int ((kx_nr F1 t q (K k) s n).1)), some (.int ((kx_nr F1 t q (K k) s n).2)), some (.int (nI n)), some (.int ((nI n) / 6)), some (.int ((nI n) % 6))]) (st' := []) (h' := kv_wd (kv_uf g 65 f) w) rfl ?_
      rw [d6.1, d6.2]
      refine kx_st 2 (pc' := 31) (L' := [some (.ref 65), some (.int (nI k)), some (.int ((kx_nr F1 t q (K k) s n).1)), some (.int ((kx_nr F1 t q (K k) s n).2)), some (.int (nI n)), some (.int (nI (n / 6))), some (.int (nI (n % 6)))]) (st' := [.int (nI (n / 6)), .ref 65]) (h' := kv_wd (kv_uf g 65 f) w) rfl ?_
      refine kx_call (z := 138) (as := [.ref 65, .int (nI (n / 6))]) (rest := []) (v := some (.int (kx_b (n / 6 < s)))) (h1 := kv_wd (kv_uf g 65 f) w) rfl (ev_mPerN (d := d + 99) (g := kv_uf g 65 f) hM.2.1.1 s6 (n / 6) (by omega)) ?_
      refine kx_st 0 (pc' := 34) (L' := [some (.ref 65), some (.int (nI k)), some (.int ((kx_nr F1 t q (K k) s n).1)), some (.int ((kx_nr F1 t q (K k) s n).2)), some (.int (nI n)), some (.int (nI (n / 6))), some (.int (nI (n % 6)))]) (st' := [.int (kx_b (n / 6 < s))]) (h' := kv_wd (kv_uf g 65 f) w) rfl ?_
      refine kx_be (t := 101) rfl rfl (fun (h34 : ¬ (n / 6 < s)) => ?_) (fun (h34 : (n / 6 < s)) => ?_)
      · refine kx_st 2 (pc' := 7) (L' := [some (.ref 65), some (.int (nI k)), some (.int ((kx_nr F1 t q (K k) s n).1)), some (.int ((kx_nr F1 t q (K k) s n).2)), some (.int ((nI n) + 1)), some (.int (nI (n / 6))), some (.int (nI (n % 6)))]) (st' := []) (h' := kv_wd (kv_uf g 65 f) w) rfl ?_
        have hh := ih (n + 1) f (some (.int (nI (n / 6)))) (some (.int (nI (n % 6)))) (by omega) hf
        rw [kx_nr_n (a := n / 6) (b := n % 6) rfl rfl (fun z => h34 z.1), nI_succ] at hh
        exact hh
      · refine kx_st 0 (pc' := 37) (L' := [some (.ref 65), some (.int (nI k)), some (.int ((kx_nr F1 t q (K k) s n).1)), some (.int ((kx_nr F1 t q (K k) s n).2)), some (.int (nI n)), some (.int (nI (n / 6))), some (.int (nI (n % 6)))]) (st' := []) (h' := kv_wd (kv_uf g 65 f) w) rfl ?_
        refine kx_st 2 (pc' := 40) (L' := [some (.ref 65), some (.int (nI k)), some (.int ((kx_nr F1 t q (K k) s n).1)), some (.int ((kx_nr F1 t q (K k) s n).2)), some (.int (nI n)), some (.int (nI (n / 6))), some (.int (nI (n % 6)))]) (st' := [.int (nI (n % 6)), .ref 65]) (h' := kv_wd (kv_uf g 65 f) w) rfl ?_
        refine kx_call (z := 138) (as := [.ref 65, .int (nI (n % 6))]) (rest := []) (v := some (.int (kx_b (n % 6 < s)))) (h1 := kv_wd (kv_uf g 65 f) w) rfl (ev_mPerN (d := d + 99) (g := kv_uf g 65 f) hM.2.1.1 s6 (n % 6) (by omega)) ?_
        refine kx_st 0 (pc' := 43) (L' := [some (.ref 65), some (.int (nI k)), some (.int ((kx_nr F1 t q (K k) s n).1)), some (.int ((kx_nr F1 t q (K k) s n).2)), some (.int (nI n)), some (.int (nI (n / 6))), some (.int (nI (n % 6)))]) (st' := [.int (kx_b (n % 6 < s))]) (h' := kv_wd (kv_uf g 65 f) w) rfl ?_
        refine kx_be (t := 101) rfl rfl (fun (h43 : ¬ (n % 6 < s)) => ?_) (fun (h43 : (n % 6 < s)) => ?_)
        · refine kx_st 2 (pc' := 7) (L' := [some (.ref 65), some (.int (nI k)), some (.int ((kx_nr F1 t q (K k) s n).1)), some (.int ((kx_nr F1 t q (K k) s n).2)), some (.int ((nI n) + 1)), some (.int (nI (n / 6))), some (.int (nI (n % 6)))]) (st' := []) (h' := kv_wd (kv_uf g 65 f) w) rfl ?_
          have hh := ih (n + 1) f (some (.int (nI (n / 6)))) (some (.int (nI (n % 6)))) (by omega) hf
          rw [kx_nr_n (a := n / 6) (b := n % 6) rfl rfl (fun z => h43 z.2.1), nI_succ] at hh
          exact hh
        · refine kx_st 0 (pc' := 46) (L' := [some (.ref 65), some (.int (nI k)), some (.int ((kx_nr F1 t q (K k) s n).1)), some (.int ((kx_nr F1 t q (K k) s n).2)), some (.int (nI n)), some (.int (nI (n / 6))), some (.int (nI (n % 6)))]) (st' := []) (h' := kv_wd (kv_uf g 65 f) w) rfl ?_
          refine kx_st 2 (pc' := 50) (L' := [some (.ref 65), some (.int (nI k)), some (.int ((kx_nr F1 t q (K k) s n).1)), some (.int ((kx_nr F1 t q (K k) s n).2)), some (.int (nI n)), some (.int (nI (n / 6))), some (.int (nI (n % 6)))]) (st' := [.int (nI (n % 6)), .int (nI (n / 6))]) (h' := kv_wd (kv_uf g 65 f) w) rfl ?_
          refine kx_bi (t := 101) rfl rfl (fun (h50 : nI (n / 6) = nI (n % 6)) => ?_) (fun (h50 : ¬ (nI (n / 6) = nI (n % 6))) => ?_)
          · refine kx_st 2 (pc' := 7) (L' := [some (.ref 65), some (.int (nI k)), some (.int ((kx_nr F1 t q (K k) s n).1)), some (.int ((kx_nr F1 t q (K k) s n).2)), some (.int ((nI n) + 1)), some (.int (nI (n / 6))), some (.int (nI (n % 6)))]) (st' := []) (h' := kv_wd (kv_uf g 65 f) w) rfl ?_
            have hh := ih (n + 1) f (some (.int (nI (n / 6)))) (some (.int (nI (n % 6)))) (by omega) hf
            rw [kx_nr_n (a := n / 6) (b := n % 6) rfl rfl (fun z => z.2.2.1 (kx_nI_inj (by omega) (by omega) h50)), nI_succ] at hh
            exact hh
          · refine kx_st 0 (pc' := 53) (L' := [some (.ref 65), some (.int (nI k)), some (.int ((kx_nr F1 t q (K k) s n).1)), some (.int ((kx_nr F1 t q (K k) s n).2)), some (.int (nI n)), some (.int (nI (n / 6))), some (.int (nI (n % 6)))]) (st' := []) (h' := kv_wd (kv_uf g 65 f) w) rfl ?_
            refine kx_st 4 (pc' := 59) (L' := [some (.ref 65), some (.int (nI k)), some (.int ((kx_nr F1 t q (K k) s n).1)), some (.int ((kx_nr F1 t q (K k) s n).2)), some (.int (nI n)), some (.int (nI (n / 6))), some (.int (nI (n % 6)))]) (st' := [.int (nI (n % 6)), .int (nI (n / 6)), .int (nI k), .ref 65]) (h' := kv_wd (kv_uf g 65 f) w) rfl ?_
            obtain ⟨f59, k59, e59⟩ := ev_canTwo (E := E) (d := d) (g := kv_uf g 65 f) (w := w) hM q hq k hkm hK (n / 6) (n % 6) h34 h43
            refine kx_call (z := 174) (as := [.ref 65, .int (nI k), .int (nI (n / 6)), .int (nI (n % 6))]) (rest := []) (v := some (.int (kx_b (kx_cn F1 t q (K k) (n / 6) (n % 6))))) (h1 := kv_wd (kv_uf (kv_uf g 65 f) 65 f59) w) rfl e59 ?_
            refine kx_st 0 (pc' := 62) (L' := [some (.ref 65), some (.int (nI k)), some (.int ((kx_nr F1 t q (K k) s n).1)), some (.int ((kx_nr F1 t q (K k) s n).2)), some (.int (nI n)), some (.int (nI (n / 6))), some (.int (nI (n % 6)))]) (st' := [.int (kx_b (kx_cn F1 t q (K k) (n / 6) (n % 6)))]) (h' := kv_wd (kv_uf (kv_uf g 65 f) 65 f59) w) rfl ?_
            refine kx_be (t := 101) rfl rfl (fun (h62 : ¬ (kx_cn F1 t q (K k) (n / 6) (n % 6))) => ?_) (fun (h62 : (kx_cn F1 t q (K k) (n / 6) (n % 6))) => ?_)
            · refine kx_st 2 (pc' := 7) (L' := [some (.ref 65), some (.int (nI k)), some (.int ((kx_nr F1 t q (K k) s n).1)), some (.int ((kx_nr F1 t q (K k) s n).2)), some (.int ((nI n) + 1)), some (.int (nI (n / 6))), some (.int (nI (n % 6)))]) (st' := []) (h' := kv_wd (kv_uf (kv_uf g 65 f) 65 f59) w) rfl ?_
              rw [kv_uf_uf]
              have hh := ih (n + 1) f59 (some (.int (nI (n / 6)))) (some (.int (nI (n % 6)))) (by omega) (fun x hx => (k59 x hx).trans (hf x hx))
              rw [kx_nr_n (a := n / 6) (b := n % 6) rfl rfl (fun z => h62 z.2.2.2.1), nI_succ] at hh
              exact hh
            · refine kx_st 0 (pc' := 65) (L' := [some (.ref 65), some (.int (nI k)), some (.int ((kx_nr F1 t q (K k) s n).1)), some (.int ((kx_nr F1 t q (K k) s n).2)), some (.int (nI n)), some (.int (nI (n / 6))), some (.int (nI (n % 6)))]) (st' := []) (h' := kv_wd (kv_uf (kv_uf g 65 f) 65 f59) w) rfl ?_
              refine kx_st 1 (pc' := 66) (L' := [some (.ref 65), some (.int (nI k)), some (.int ((kx_nr F1 t q (K k) s n).1)), some (.int ((kx_nr F1 t q (K k) s n).2)), some (.int (nI n)), some (.int (nI (n / 6))), some (.int (nI (n % 6)))]) (st' := [.int ((kx_nr F1 t q (K k) s n).1)]) (h' := kv_wd (kv_uf (kv_uf g 65 f) 65 f59) w) rfl ?_
              refine kx_bc (t := 82) rfl rfl (fun (h66 : (kx_nr F1 t q (K k) s n).1 < 0) => ?_) (fun (h66 : ¬ ((kx_nr F1 t q (K k) s n).1 < 0)) => ?_)
              · refine kx_st 10 (pc' := 97) (L' := [some (.ref 65), some (.int (nI k)), some (.int ((10 * (nI (n / 6))) + (nI (n % 6)))), some (.int ((kx_nr F1 t q (K k) s n).2)), some (.int (nI n)), some (.int (nI (n / 6))), some (.int (nI (n % 6)))]) (st' := [.int (nI (n % 6)), .int (nI (n / 6)), .int (nI k), .ref 65]) (h' := kv_wd (kv_uf (kv_uf g 65 f) 65 f59) w) rfl ?_
                refine kx_call (z := 172) (as := [.ref 65, .int (nI k), .int (nI (n / 6)), .int (nI (n % 6))]) (rest := []) (v := some (.int (kx_mq q (K k) (n / 6) (n % 6)))) (h1 := kv_wd (kv_uf (kv_uf g 65 f) 65 f59) w) rfl (ev_mmisses (d := d + 99) (g := kv_uf (kv_uf g 65 f) 65 f59) hM q hq k hkm (n / 6) (n % 6) (by omega) (by omega)) ?_
                refine kx_st 0 (pc' := 100) (L' := [some (.ref 65), some (.int (nI k)), some (.int ((10 * (nI (n / 6))) + (nI (n % 6)))), some (.int ((kx_nr F1 t q (K k) s n).2)), some (.int (nI n)), some (.int (nI (n / 6))), some (.int (nI (n % 6)))]) (st' := [.int (kx_mq q (K k) (n / 6) (n % 6))]) (h' := kv_wd (kv_uf (kv_uf g 65 f) 65 f59) w) rfl ?_
                refine kx_st 3 (pc' := 7) (L' := [some (.ref 65), some (.int (nI k)), some (.int ((10 * (nI (n / 6))) + (nI (n % 6)))), some (.int (kx_mq q (K k) (n / 6) (n % 6))), some (.int ((nI n) + 1)), some (.int (nI (n / 6))), some (.int (nI (n % 6)))]) (st' := []) (h' := kv_wd (kv_uf (kv_uf g 65 f) 65 f59) w) rfl ?_
                rw [kv_uf_uf]
                have hh := ih (n + 1) f59 (some (.int (nI (n / 6)))) (some (.int (nI (n % 6)))) (by omega) (fun x hx => (k59 x hx).trans (hf x hx))
                rw [kx_nr_y (a := n / 6) (b := n % 6) rfl rfl h34 h43 (fun z => h50 (by rw [z])) h62 (Or.inl h66), nI_succ] at hh
                exact hh
              · refine kx_st 0 (pc' := 69) (L' := [some (.ref 65), some (.int (nI k)), some (.int ((kx_nr F1 t q (K k) s n).1)), some (.int ((kx_nr F1 t q (K k) s n).2)), some (.int (nI n)), some (.int (nI (n / 6))), some (.int (nI (n % 6)))]) (st' := []) (h' := kv_wd (kv_uf (kv_uf g 65 f) 65 f59) w) rfl ?_
                refine kx_st 4 (pc' := 75) (L' := [some (.ref 65), some (.int (nI k)), some (.int ((kx_nr F1 t q (K k) s n).1)), some (.int ((kx_nr F1 t q (K k) s n).2)), some (.int (nI n)), some (.int (nI (n / 6))), some (.int (nI (n % 6)))]) (st' := [.int (nI (n % 6)), .int (nI (n / 6)), .int (nI k), .ref 65]) (h' := kv_wd (kv_uf (kv_uf g 65 f) 65 f59) w) rfl ?_
                refine kx_call (z := 172) (as := [.ref 65, .int (nI k), .int (nI (n / 6)), .int (nI (n % 6))]) (rest := []) (v := some (.int (kx_mq q (K k) (n / 6) (n % 6)))) (h1 := kv_wd (kv_uf (kv_uf g 65 f) 65 f59) w) rfl (ev_mmisses (d := d + 99) (g := kv_uf (kv_uf g 65 f) 65 f59) hM q hq k hkm (n / 6) (n % 6) (by omega) (by omega)) ?_
                refine kx_st 0 (pc' := 78) (L' := [some (.ref 65), some (.int (nI k)), some (.int ((kx_nr F1 t q (K k) s n).1)), some (.int ((kx_nr F1 t q (K k) s n).2)), some (.int (nI n)), some (.int (nI (n / 6))), some (.int (nI (n % 6)))]) (st' := [.int (kx_mq q (K k) (n / 6) (n % 6))]) (h' := kv_wd (kv_uf (kv_uf g 65 f) 65 f59) w) rfl ?_
                refine kx_st 1 (pc' := 79) (L' := [some (.ref 65), some (.int (nI k)), some (.int ((kx_nr F1 t q (K k) s n).1)), some (.int ((kx_nr F1 t q (K k) s n).2)), some (.int (nI n)), some (.int (nI (n / 6))), some (.int (nI (n % 6)))]) (st' := [.int ((kx_nr F1 t q (K k) s n).2), .int (kx_mq q (K k) (n / 6) (n % 6))]) (h' := kv_wd (kv_uf (kv_uf g 65 f) 65 f59) w) rfl ?_
                refine kx_bi (t := 101) rfl rfl (fun (h79 : (kx_nr F1 t q (K k) s n).2 ≤ kx_mq q (K k) (n / 6) (n % 6)) => ?_) (fun (h79 : ¬ ((kx_nr F1 t q (K k) s n).2 ≤ kx_mq q (K k) (n / 6) (n % 6))) => ?_)
                · refine kx_st 2 (pc' := 7) (L' := [some (.ref 65), some (.int (nI k)), some (.int ((kx_nr F1 t q (K k) s n).1)), some (.int ((kx_nr F1 t q (K k) s n).2)), some (.int ((nI n) + 1)), some (.int (nI (n / 6))), some (.int (nI (n % 6)))]) (st' := []) (h' := kv_wd (kv_uf (kv_uf g 65 f) 65 f59) w) rfl ?_
                  rw [kv_uf_uf]
                  have hh := ih (n + 1) f59 (some (.int (nI (n / 6)))) (some (.int (nI (n % 6)))) (by omega) (fun x hx => (k59 x hx).trans (hf x hx))
                  rw [kx_nr_n (a := n / 6) (b := n % 6) rfl rfl (fun z => z.2.2.2.2.elim h66 (fun y => Int32.not_lt.mpr h79 y)), nI_succ] at hh
                  exact hh
                · refine kx_st 0 (pc' := 82) (L' := [some (.ref 65), some (.int (nI k)), some (.int ((kx_nr F1 t q (K k) s n).1)), some (.int ((kx_nr F1 t q (K k) s n).2)), some (.int (nI n)), some (.int (nI (n / 6))), some (.int (nI (n % 6)))]) (st' := []) (h' := kv_wd (kv_uf (kv_uf g 65 f) 65 f59) w) rfl ?_
                  refine kx_st 10 (pc' := 97) (L' := [some (.ref 65), some (.int (nI k)), some (.int ((10 * (nI (n / 6))) + (nI (n % 6)))), some (.int ((kx_nr F1 t q (K k) s n).2)), some (.int (nI n)), some (.int (nI (n / 6))), some (.int (nI (n % 6)))]) (st' := [.int (nI (n % 6)), .int (nI (n / 6)), .int (nI k), .ref 65]) (h' := kv_wd (kv_uf (kv_uf g 65 f) 65 f59) w) rfl ?_
                  refine kx_call (z := 172) (as := [.ref 65, .int (nI k), .int (nI (n / 6)), .int (nI (n % 6))]) (rest := []) (v := some (.int (kx_mq q (K k) (n / 6) (n % 6)))) (h1 := kv_wd (kv_uf (kv_uf g 65 f) 65 f59) w) rfl (ev_mmisses (d := d + 99) (g := kv_uf (kv_uf g 65 f) 65 f59) hM q hq k hkm (n / 6) (n % 6) (by omega) (by omega)) ?_
                  refine kx_st 0 (pc' := 100) (L' := [some (.ref 65), some (.int (nI k)), some (.int ((10 * (nI (n / 6))) + (nI (n % 6)))), some (.int ((kx_nr F1 t q (K k) s n).2)), some (.int (nI n)), some (.int (nI (n / 6))), some (.int (nI (n % 6)))]) (st' := [.int (kx_mq q (K k) (n / 6) (n % 6))]) (h' := kv_wd (kv_uf (kv_uf g 65 f) 65 f59) w) rfl ?_
                  refine kx_st 3 (pc' := 7) (L' := [some (.ref 65), some (.int (nI k)), some (.int ((10 * (nI (n / 6))) + (nI (n % 6)))), some (.int (kx_mq q (K k) (n / 6) (n % 6))), some (.int ((nI n) + 1)), some (.int (nI (n / 6))), some (.int (nI (n % 6)))]) (st' := []) (h' := kv_wd (kv_uf (kv_uf g 65 f) 65 f59) w) rfl ?_
                  rw [kv_uf_uf]
                  have hh := ih (n + 1) f59 (some (.int (nI (n / 6)))) (some (.int (nI (n % 6)))) (by omega) (fun x hx => (k59 x hx).trans (hf x hx))
                  rw [kx_nr_y (a := n / 6) (b := n % 6) rfl rfl h34 h43 (fun z => h50 (by rw [z])) h62 (Or.inr (Int32.not_le.mp h79)), nI_succ] at hh
                  exact hh
set_option maxRecDepth 100000 in
theorem ev_mnearest {E : kv_V} {d : Nat} {g : kv_S} {w : kv_W} {F0 F1 : kx_FF} {s t m : Nat} {K : Nat → Nat → Int32} (hM : kx_M F0 F1 s t m K (g 66)) (q : kx_Q) (hq : kx_hmq (g 66) q) (k : Nat) (hkm : k < m) (hK : kx_K s k (K k) (K k)) : ∃ f' : Nat → Int32, (∀ k, (k < 7 ∨ 14 < k) → f' k = g 65 k) ∧ kv_ev E (d + 102) 176 [.ref 65, .int (nI k)] (kv_wd g w) (some (.int ((kx_nr F1 t q (K k) s 36).1))) (kv_wd (kv_uf g 65 f') w) := by
  obtain ⟨v, hf, he, rfl, f', hF, rfl⟩ := kx_evP (E := E) (d := d + 101) (y := 176) (h := kv_wd g w) (as := [.ref 65, .int (nI k)]) (P := fun v h => v = (some (.int ((kx_nr F1 t q (K k) s 36).1)) : Option Value) ∧ ∃ f' : Nat → Int32, (∀ k, (k < 7 ∨ 14 < k) → f' k = g 65 k) ∧ h = kv_wd (kv_uf g 65 f') w) (by decide) (Nat.le_of_ble_eq_true rfl) (by
    refine kx_st 0 (pc' := 0) (L' := [some (.ref 65), some (.int (nI k)), none, none, none, none, none]) (st' := []) (h' := kv_wd g w) rfl ?_
    refine kx_st 6 (pc' := 7) (L' := [some (.ref 65), some (.int (nI k)), some (.int (-1)), some (.int 0), some (.int 0), none, none]) (st' := []) (h' := kv_wd g w) rfl ?_
    have hh := lp_mnearest (E := E) (d := d) (g := g) (w := w) hM q hq k hkm hK (P := fun v h => v = (some (.int (kx_nr F1 t q (K k) s 36).1) : Option Value) ∧ ∃ f' : Nat → Int32, (∀ k, (k < 7 ∨ 14 < k) → f' k = g 65 k) ∧ h = kv_wd (kv_uf g 65 f') w) (fun f' hf => ⟨rfl, f', hf, rfl⟩) 36 0 (g 65) none none (by omega) (fun _ _ => rfl)
    rw [kv_uf_id] at hh
    exact hh)
  exact ⟨f', hF, he⟩
set_option maxRecDepth 100000 in
theorem lp_xnin {E : kv_V} {d : Nat} {g : kv_S} {w : kv_W} {F0 F1 : kx_FF} {s t m : Nat} {K : Nat → Nat → Int32} (hX : kx_X F0 F1 s t m K g) (q : kx_Q) (hq : kx_hq (g 45) (g 46) (g 44 2) q) (hqb : kx_qb q) (k : Nat) (hkm : k < m) (hK : kx_K s k (K k) (K k)) (a : Nat) (ha : a < s) {P : Option Value → kv_H → Prop} (hP : ∀ (f : Nat → Int32) (x7 x8 : Option Value), kx_V E (d + 8) 65 105 [some (.ref 43), some (.ref 1), some (.ref (14 + k)), some (.int ((kx_nr F1 t q (K k) s (6 * a + s)).1)), some (.int ((kx_nr F1 t q (K k) s (6 * a + s)).2)), some (.int (nI a)), some (.int (nI s)), x7, x8] [] (kv_wd (kv_uf g 11 f) w) P) : ∀ (nz b : Nat) (f : Nat → Int32) (x7 x8 : Option Value), b + nz = s → kx_V E (d + 8) 65 20 [some (.ref 43), some (.ref 1), some (.ref (14 + k)), some (.int ((kx_nr F1 t q (K k) s (6 * a + b)).1)), some (.int ((kx_nr F1 t q (K k) s (6 * a + b)).2)), some (.int (nI a)), some (.int (nI b)), x7, x8] [] (kv_wd (kv_uf g 11 f) w) P := by
  have s6 := hX.1.2.1
  have hk : k < 8 := by have := hX.1.2.2.2; omega
  have kk : ∀ c, c < 9 → g (14 + k) c = K k c := hX.2.2.2.2 k hkm
  intro nz
  induction nz with
  | zero =>
    intro b f x7 x8 hb
    have hkN : b = s := by omega
    refine kx_st 3 (pc' := 26) (L' := [some (.ref 43), some (.ref 1), some (.ref (14 + k)), some (.int ((kx_nr F1 t q (K k) s (6 * a + b)).1)), some (.int ((kx_nr F1 t q (K k) s (6 * a + b)).2)), some (.int (nI a)), some (.int (nI b)), x7, x8]) (st' := [.int ((kv_uf g 11 f) 1 0), .int (nI b)]) (h' := kv_wd (kv_uf g 11 f) w) rfl ?_
    refine kx_bi (t := 105) rfl rfl (fun (h26 : (kv_uf g 11 f) 1 0 ≤ nI b) => ?_) (fun (h26 : ¬ ((kv_uf g 11 f) 1 0 ≤ nI b)) => ?_)
    · subst hkN
      exact hP f x7 x8
    · exact absurd (by rw [show (kv_uf g 11 f) 1 0 = nI s from hX.2.1.1]; exact nI_le (by omega) (by omega)) h26
  | succ nz ih =>
    intro b f x7 x8 hb
    have e1 : kx_ms ((kv_uf g 11 f) 46 a + (kv_uf g 11 f) 45 b) ((kv_uf g 11 f) (14 + k) 4) = kx_mq q (K k) a b := by rw [kv_uf_ne (show 14 + k ≠ 11 by omega), show (kv_uf g 11 f) 46 a = _ from (hq.1 a (by omega)).2, show (kv_uf g 11 f) 45 b = _ from (hq.1 b (by omega)).1, kk 4 (by omega)]; rfl
    have em := ev_misses (E := E) (d := d + 5) (g := kv_uf g 11 f) (w := w) kv_hd44 k hk a b (by omega) (by omega) (by obtain ⟨x, h1, h2⟩ := (hqb a (by omega)).2; exact ⟨x, h1, (hq.1 a (by omega)).2.trans h2⟩) (by obtain ⟨x, h1, h2⟩ := (hqb b (by omega)).1; exact ⟨x, h1, (hq.1 b (by omega)).1.trans h2⟩) (by obtain ⟨x, h1, h2⟩ := hK.2.2.2.2.1; exact ⟨x, h1, by rw [kv_uf_ne (by omega)]; exact (kk 4 (by omega)).trans h2⟩)
    rw [e1] at em
    refine kx_st 3 (pc' := 26) (L' := [some (.ref 43), some (.ref 1), some (.ref (14 + k)), some (.int ((kx_nr F1 t q (K k) s (6 * a + b)).1)), some (.int ((kx_nr F1 t q (K k) s (6 * a + b)).2)), some (.int (nI a)), some (.int (nI b)), x7, x8]) (st' := [.int ((kv_uf g 11 f) 1 0), .int (nI b)]) (h' := kv_wd (kv_uf g 11 f) w) rfl ?_
    refine kx_bi (t := 105) rfl rfl (fun (h26 : (kv_uf g 11 f) 1 0 ≤ nI b) => ?_) (fun (h26 : ¬ ((kv_uf g 11 f) 1 0 ≤ nI b)) => ?_)
    · exact absurd h26 (by rw [show (kv_uf g 11 f) 1 0 = nI s from hX.2.1.1]; exact nI_ge (a := b) (b := s) (by omega) (by omega))
    · refine kx_st 0 (pc' := 29) (L' := [some (.ref 43), some (.ref 1), some (.ref (14 + k)), some (.int ((kx_nr F1 t q (K k) s (6 * a + b)).1)), some (.int ((kx_nr F1 t q (K k) s (6 * a + b)).2)), some (.int (nI a)), some (.int (nI b)), x7, x8]) (st' := []) (h' := kv_wd (kv_uf g 11 f) w) rfl ?_
      refine kx_st 5 (pc' := 38) (L' := [some (.ref 43), some (.ref 1), some (.ref (14 + k)), some (.int ((kx_nr F1 t q (K k) s (6 * a + b)).1)), some (.int ((kx_nr F1 t q (K k) s (6 * a + b)).2)), some (.int (nI a)), some (.int (nI b)), x7, x8]) (st' := [.int (nI b), .int (nI a), .ref 44, .ref (14 + k)]) (h' := kv_wd (kv_uf g 11 f) w) rfl ?_
      refine kx_call (z := 33) (as := [.ref (14 + k), .ref 44, .int (nI a), .int (nI b)]) (rest := []) (v := some (.int (kx_mq q (K k) a b))) (h1 := kv_wd (kv_uf g 11 f) w) (kx_cv (b := 14 + k) (A := [.ref 44, .int (nI a), .int (nI b)]) (rest := []) rfl rfl rfl rfl (Nat.le_of_ble_eq_true rfl) (kv_kn_h hk).1 ((kv_kn_h hk).2 _ _)) em ?_
      refine kx_st 0 (pc' := 41) (L' := [some (.ref 43), some (.ref 1), some (.ref (14 + k)), some (.int ((kx_nr F1 t q (K k) s (6 * a + b)).1)), some (.int ((kx_nr F1 t q (K k) s (6 * a + b)).2)), some (.int (nI a)), some (.int (nI b)), x7, x8]) (st' := [.int (kx_mq q (K k) a b)]) (h' := kv_wd (kv_uf g 11 f) w) rfl ?_
      refine kx_st 2 (pc' := 44) (L' := [some (.ref 43), some (.ref 1), some (.ref (14 + k)), some (.int ((kx_nr F1 t q (K k) s (6 * a + b)).1)), some (.int ((kx_nr F1 t q (K k) s (6 * a + b)).2)), some (.int (nI a)), some (.int (nI b)), some (.int (kx_mq q (K k) a b)), x8]) (st' := [.int ((kx_nr F1 t q (K k) s (6 * a + b)).1)]) (h' := kv_wd (kv_uf g 11 f) w) rfl ?_
      refine kx_bc (t := 54) rfl rfl (fun (h44 : (kx_nr F1 t q (K k) s (6 * a + b)).1 < 0) => ?_) (fun (h44 : ¬ ((kx_nr F1 t q (K k) s (6 * a + b)).1 < 0)) => ?_)
      · refine kx_st 5 (pc' := 65) (L' := [some (.ref 43), some (.ref 1), some (.ref (14 + k)), some (.int ((kx_nr F1 t q (K k) s (6 * a + b)).1)), some (.int ((kx_nr F1 t q (K k) s (6 * a + b)).2)), some (.int (nI a)), some (.int (nI b)), some (.int (kx_mq q (K k) a b)), some (.int 1)]) (st' := [.int (nI b), .int (nI a)]) (h' := kv_wd (kv_uf g 11 f) w) rfl ?_
        refine kx_bi (t := 99) rfl rfl (fun (h65 : nI a = nI b) => ?_) (fun (h65 : ¬ (nI a = nI b)) => ?_)
        · refine kx_st 2 (pc' := 20) (L' := [some (.ref 43), some (.ref 1), some (.ref (14 + k)), some (.int ((kx_nr F1 t q (K k) s (6 * a + b)).1)), some (.int ((kx_nr F1 t q (K k) s (6 * a + b)).2)), some (.int (nI a)), some (.int ((nI b) + 1)), some (.int (kx_mq q (K k) a b)), some (.int 1)]) (st' := []) (h' := kv_wd (kv_uf g 11 f) w) rfl ?_
          have hh := ih (b + 1) f (some (.int (kx_mq q (K k) a b))) (some (.int 1)) (by omega)
          rw [← Nat.add_assoc, kx_nr_n (a := a) (b := b) (by omega) (by omega) (fun z => z.2.2.1 (kx_nI_inj (by omega) (by omega) h65)), nI_succ] at hh
          exact hh
        · refine kx_st 0 (pc' := 68) (L' := [some (.ref 43), some (.ref 1), some (.ref (14 + k)), some (.int ((kx_nr F1 t q (K k) s (6 * a + b)).1)), some (.int ((kx_nr F1 t q (K k) s (6 * a + b)).2)), some (.int (nI a)), some (.int (nI b)), some (.int (kx_mq q (K k) a b)), some (.int 1)]) (st' := []) (h' := kv_wd (kv_uf g 11 f) w) rfl ?_
          refine kx_st 1 (pc' := 70) (L' := [some (.ref 43), some (.ref 1), some (.ref (14 + k)), some (.int ((kx_nr F1 t q (K k) s (6 * a + b)).1)), some (.int ((kx_nr F1 t q (K k) s (6 * a + b)).2)), some (.int (nI a)), some (.int (nI b)), some (.int (kx_mq q (K k) a b)), some (.int 1)]) (st' := [.int 1]) (h' := kv_wd (kv_uf g 11 f) w) rfl ?_
          refine kx_st 1 (pc' := 73) (L' := [some (.ref 43), some (.ref 1), some (.ref (14 + k)), some (.int ((kx_nr F1 t q (K k) s (6 * a + b)).1)), some (.int ((kx_nr F1 t q (K k) s (6 * a + b)).2)), some (.int (nI a)), some (.int (nI b)), some (.int (kx_mq q (K k) a b)), some (.int 1)]) (st' := []) (h' := kv_wd (kv_uf g 11 f) w) rfl ?_
          refine kx_st 5 (pc' := 80) (L' := [some (.ref 43), some (.ref 1), some (.ref (14 + k)), some (.int ((kx_nr F1 t q (K k) s (6 * a + b)).1)), some (.int ((kx_nr F1 t q (K k) s (6 * a + b)).2)), some (.int (nI a)), some (.int (nI b)), some (.int (kx_mq q (K k) a b)), some (.int 1)]) (st' := [.int (nI b), .int (nI a), .ref (14 + k), .ref 1, .ref 43]) (h' := kv_wd (kv_uf g 11 f) w) rfl ?_
          obtain ⟨f80, e80⟩ := ev_canWere (E := E) (d := d) (g := kv_uf g 11 f) (w := w) (kx_X_cg (fun b hb => kv_uf_ne (by omega)) hX) q hq hqb k hkm hK a b (by omega) (by omega)
          refine kx_call (z := 63) (as := [.ref 43, .ref 1, .ref (14 + k), .int (nI a), .int (nI b)]) (rest := []) (v := some (.int (kx_b (kx_cn F1 t q (K k) a b)))) (h1 := kv_wd (kv_uf (kv_uf g 11 f) 11 f80) w) rfl e80 ?_
          refine kx_st 0 (pc' := 83) (L' := [some (.ref 43), some (.ref 1), some (.ref (14 + k)), some (.int ((kx_nr F1 t q (K k) s (6 * a + b)).1)), some (.int ((kx_nr F1 t q (K k) s (6 * a + b)).2)), some (.int (nI a)), some (.int (nI b)), some (.int (kx_mq q (K k) a b)), some (.int 1)]) (st' := [.int (kx_b (kx_cn F1 t q (K k) a b))]) (h' := kv_wd (kv_uf (kv_uf g 11 f) 11 f80) w) rfl ?_
          refine kx_be (t := 99) rfl rfl (fun (h83 : ¬ (kx_cn F1 t q (K k) a b)) => ?_) (fun (h83 : (kx_cn F1 t q (K k) a b)) => ?_)
          · refine kx_st 2 (pc' := 20) (L' := [some (.ref 43), some (.ref 1), some (.ref (14 + k)), some (.int ((kx_nr F1 t q (K k) s (6 * a + b)).1)), some (.int ((kx_nr F1 t q (K k) s (6 * a + b)).2)), some (.int (nI a)), some (.int ((nI b) + 1)), some (.int (kx_mq q (K k) a b)), some (.int 1)]) (st' := []) (h' := kv_wd (kv_uf (kv_uf g 11 f) 11 f80) w) rfl ?_
            rw [kv_uf_uf]
            have hh := ih (b + 1) f80 (some (.int (kx_mq q (K k) a b))) (some (.int 1)) (by omega)
            rw [← Nat.add_assoc, kx_nr_n (a := a) (b := b) (by omega) (by omega) (fun z => h83 z.2.2.2.1), nI_succ] at hh
            exact hh
          · refine kx_st 0 (pc' := 86) (L' := [some (.ref 43), some (.ref 1), some (.ref (14 + k)), some (.int ((kx_nr F1 t q (K k) s (6 * a + b)).1)), some (.int ((kx_nr F1 t q (K k) s (6 * a + b)).2)), some (.int (nI a)), some (.int (nI b)), some (.int (kx_mq q (K k) a b)), some (.int 1)]) (st' := []) (h' := kv_wd (kv_uf (kv_uf g 11 f) 11 f80) w) rfl ?_
            refine kx_st 10 (pc' := 20) (L' := [some (.ref 43), some (.ref 1), some (.ref (14 + k)), some (.int ((10 * (nI a)) + (nI b))), some (.int (kx_mq q (K k) a b)), some (.int (nI a)), some (.int ((nI b) + 1)), some (.int (kx_mq q (K k) a b)), some (.int 1)]) (st' := []) (h' := kv_wd (kv_uf (kv_uf g 11 f) 11 f80) w) rfl ?_
            rw [kv_uf_uf]
            have hh := ih (b + 1) f80 (some (.int (kx_mq q (K k) a b))) (some (.int 1)) (by omega)
            rw [← Nat.add_assoc, kx_nr_y (a := a) (b := b) (by omega) (by omega) (by omega) (by omega) (fun z => h65 (by rw [z])) h83 (Or.inl h44), nI_succ] at hh
            exact hh
      · refine kx_st 0 (pc' := 47) (L' := [some (.ref 43), some (.ref 1), some (.ref (14 + k)), some (.int ((kx_nr F1 t q (K k) s (6 * a + b)).1)), some (.int ((kx_nr F1 t q (K k) s (6 * a + b)).2)), some (.int (nI a)), some (.int (nI b)), some (.int (kx_mq q (K k) a b)), x8]) (st' := []) (h' := kv_wd (kv_uf g 11 f) w) rfl ?_
        refine kx_st 2 (pc' := 51) (L' := [some (.ref 43), some (.ref 1), some (.ref (14 + k)), some (.int ((kx_nr F1 t q (K k) s (6 * a + b)).1)), some (.int ((kx_nr F1 t q (K k) s (6 * a + b)).2)), some (.int (nI a)), some (.int (nI b)), some (.int (kx_mq q (K k) a b)), x8]) (st' := [.int ((kx_nr F1 t q (K k) s (6 * a + b)).2), .int (kx_mq q (K k) a b)]) (h' := kv_wd (kv_uf g 11 f) w) rfl ?_
        refine kx_bi (t := 58) rfl rfl (fun (h51 : (kx_nr F1 t q (K k) s (6 * a + b)).2 ≤ kx_mq q (K k) a b) => ?_) (fun (h51 : ¬ ((kx_nr F1 t q (K k) s (6 * a + b)).2 ≤ kx_mq q (K k) a b)) => ?_)
        · refine kx_st 4 (pc' := 65) (L' := [some (.ref 43), some (.ref 1), some (.ref (14 + k)), some (.int ((kx_nr F1 t q (K k) s (6 * a + b)).1)), some (.int ((kx_nr F1 t q (K k) s (6 * a + b)).2)), some (.int (nI a)), some (.int (nI b)), some (.int (kx_mq q (K k) a b)), some (.int 0)]) (st' := [.int (nI b), .int (nI a)]) (h' := kv_wd (kv_uf g 11 f) w) rfl ?_
          refine kx_bi (t := 99) rfl rfl (fun (h65 : nI a = nI b) => ?_) (fun (h65 : ¬ (nI a = nI b)) => ?_)
          · refine kx_st 2 (pc' := 20) (L' := [some (.ref 43), some (.ref 1), some (.ref (14 + k)), some (.int ((kx_nr F1 t q (K k) s (6 * a + b)).1)), some (.int ((kx_nr F1 t q (K k) s (6 * a + b)).2)), some (.int (nI a)), some (.int ((nI b) + 1)), some (.int (kx_mq q (K k) a b)), some (.int 0)]) (st' := []) (h' := kv_wd (kv_uf g 11 f) w) rfl ?_
            have hh := ih (b + 1) f (some (.int (kx_mq q (K k) a b))) (some (.int 0)) (by omega)
            rw [← Nat.add_assoc, kx_nr_n (a := a) (b := b) (by omega) (by omega) (fun z => z.2.2.1 (kx_nI_inj (by omega) (by omega) h65)), nI_succ] at hh
            exact hh
          · refine kx_st 0 (pc' := 68) (L' := [some (.ref 43), some (.ref 1), some (.ref (14 + k)), some (.int ((kx_nr F1 t q (K k) s (6 * a + b)).1)), some (.int ((kx_nr F1 t q (K k) s (6 * a + b)).2)), some (.int (nI a)), some (.int (nI b)), some (.int (kx_mq q (K k) a b)), some (.int 0)]) (st' := []) (h' := kv_wd (kv_uf g 11 f) w) rfl ?_
            refine kx_st 1 (pc' := 70) (L' := [some (.ref 43), some (.ref 1), some (.ref (14 + k)), some (.int ((kx_nr F1 t q (K k) s (6 * a + b)).1)), some (.int ((kx_nr F1 t q (K k) s (6 * a + b)).2)), some (.int (nI a)), some (.int (nI b)), some (.int (kx_mq q (K k) a b)), some (.int 0)]) (st' := [.int 0]) (h' := kv_wd (kv_uf g 11 f) w) rfl ?_
            refine kx_st 1 (pc' := 99) (L' := [some (.ref 43), some (.ref 1), some (.ref (14 + k)), some (.int ((kx_nr F1 t q (K k) s (6 * a + b)).1)), some (.int ((kx_nr F1 t q (K k) s (6 * a + b)).2)), some (.int (nI a)), some (.int (nI b)), some (.int (kx_mq q (K k) a b)), some (.int 0)]) (st' := []) (h' := kv_wd (kv_uf g 11 f) w) rfl ?_
            refine kx_st 2 (pc' := 20) (L' := [some (.ref 43), some (.ref 1), some (.ref (14 + k)), some (.int ((kx_nr F1 t q (K k) s (6 * a + b)).1)), some (.int ((kx_nr F1 t q (K k) s (6 * a + b)).2)), some (.int (nI a)), some (.int ((nI b) + 1)), some (.int (kx_mq q (K k) a b)), some (.int 0)]) (st' := []) (h' := kv_wd (kv_uf g 11 f) w) rfl ?_
            have hh := ih (b + 1) f (some (.int (kx_mq q (K k) a b))) (some (.int 0)) (by omega)
            rw [← Nat.add_assoc, kx_nr_n (a := a) (b := b) (by omega) (by omega) (fun z => z.2.2.2.2.elim h44 (fun y => Int32.not_lt.mpr h51 y)), nI_succ] at hh
            exact hh
        · refine kx_st 0 (pc' := 54) (L' := [some (.ref 43), some (.ref 1), some (.ref (14 + k)), some (.int ((kx_nr F1 t q (K k) s (6 * a + b)).1)), some (.int ((kx_nr F1 t q (K k) s (6 * a + b)).2)), some (.int (nI a)), some (.int (nI b)), some (.int (kx_mq q (K k) a b)), x8]) (st' := []) (h' := kv_wd (kv_uf g 11 f) w) rfl ?_
          refine kx_st 5 (pc' := 65) (L' := [some (.ref 43), some (.ref 1), some (.ref (14 + k)), some (.int ((kx_nr F1 t q (K k) s (6 * a + b)).1)), some (.int ((kx_nr F1 t q (K k) s (6 * a + b)).2)), some (.int (nI a)), some (.int (nI b)), some (.int (kx_mq q (K k) a b)), some (.int 1)]) (st' := [.int (nI b), .int (nI a)]) (h' := kv_wd (kv_uf g 11 f) w) rfl ?_
          refine kx_bi (t := 99) rfl rfl (fun (h65 : nI a = nI b) => ?_) (fun (h65 : ¬ (nI a = nI b)) => ?_)
          · refine kx_st 2 (pc' := 20) (L' := [some (.ref 43), some (.ref 1), some (.ref (14 + k)), some (.int ((kx_nr F1 t q (K k) s (6 * a + b)).1)), some (.int ((kx_nr F1 t q (K k) s (6 * a + b)).2)), some (.int (nI a)), some (.int ((nI b) + 1)), some (.int (kx_mq q (K k) a b)), some (.int 1)]) (st' := []) (h' := kv_wd (kv_uf g 11 f) w) rfl ?_
            have hh := ih (b + 1) f (some (.int (kx_mq q (K k) a b))) (some (.int 1)) (by omega)
            rw [← Nat.add_assoc, kx_nr_n (a := a) (b := b) (by omega) (by omega) (fun z => z.2.2.1 (kx_nI_inj (by omega) (by omega) h65)), nI_succ] at hh
            exact hh
          · refine kx_st 0 (pc' := 68) (L' := [some (.ref 43), some (.ref 1), some (.ref (14 + k)), some (.int ((kx_nr F1 t q (K k) s (6 * a + b)).1)), some (.int ((kx_nr F1 t q (K k) s (6 * a + b)).2)), some (.int (nI a)), some (.int (nI b)), some (.int (kx_mq q (K k) a b)), some (.int 1)]) (st' := []) (h' := kv_wd (kv_uf g 11 f) w) rfl ?_
            refine kx_st 1 (pc' := 70) (L' := [some (.ref 43), some (.ref 1), some (.ref (14 + k)), some (.int ((kx_nr F1 t q (K k) s (6 * a + b)).1)), some (.int ((kx_nr F1 t q (K k) s (6 * a + b)).2)), some (.int (nI a)), some (.int (nI b)), some (.int (kx_mq q (K k) a b)), some (.int 1)]) (st' := [.int 1]) (h' := kv_wd (kv_uf g 11 f) w) rfl ?_
            refine kx_st 1 (pc' := 73) (L' := [some (.ref 43), some (.ref 1), some (.ref (14 + k)), some (.int ((kx_nr F1 t q (K k) s (6 * a + b)).1)), some (.int ((kx_nr F1 t q (K k) s (6 * a + b)).2)), some (.int (nI a)), some (.int (nI b)), some (.int (kx_mq q (K k) a b)), some (.int 1)]) (st' := []) (h' := kv_wd (kv_uf g 11 f) w) rfl ?_
            refine kx_st 5 (pc' := 80) (L' := [some (.ref 43), some (.ref 1), some (.ref (14 + k)), some (.int ((kx_nr F1 t q (K k) s (6 * a + b)).1)), some (.int ((kx_nr F1 t q (K k) s (6 * a + b)).2)), some (.int (nI a)), some (.int (nI b)), some (.int (kx_mq q (K k) a b)), some (.int 1)]) (st' := [.int (nI b), .int (nI a), .ref (14 + k), .ref 1, .ref 43]) (h' := kv_wd (kv_uf g 11 f) w) rfl ?_
            obtain ⟨f80, e80⟩ := ev_canWere (E := E) (d := d) (g := kv_uf g 11 f) (w := w) (kx_X_cg (fun b hb => kv_uf_ne (by omega)) hX) q hq hqb k hkm hK a b (by omega) (by omega)
            refine kx_call (z := 63) (as := [.ref 43, .ref 1, .ref (14 + k), .int (nI a), .int (nI b)]) (rest := []) (v := some (.int (kx_b (kx_cn F1 t q (K k) a b)))) (h1 := kv_wd (kv_uf (kv_uf g 11 f) 11 f80) w) rfl e80 ?_
            refine kx_st 0 (pc' := 83) (L' := [some (.ref 43), some (.ref 1), some (.ref (14 + k)), some (.int ((kx_nr F1 t q (K k) s (6 * a + b)).1)), some (.int ((kx_nr F1 t q (K k) s (6 * a + b)).2)), some (.int (nI a)), some (.int (nI b)), some (.int (kx_mq q (K k) a b)), some (.int 1)]) (st' := [.int (kx_b (kx_cn F1 t q (K k) a b))]) (h' := kv_wd (kv_uf (kv_uf g 11 f) 11 f80) w) rfl ?_
            refine kx_be (t := 99) rfl rfl (fun (h83 : ¬ (kx_cn F1 t q (K k) a b)) => ?_) (fun (h83 : (kx_cn F1 t q (K k) a b)) => ?_)
            · refine kx_st 2 (pc' := 20) (L' := [some (.ref 43), some (.ref 1), some (.ref (14 + k)), some (.int ((kx_nr F1 t q (K k) s (6 * a + b)).1)), some (.int ((kx_nr F1 t q (K k) s (6 * a + b)).2)), some (.int (nI a)), some (.int ((nI b) + 1)), some (.int (kx_mq q (K k) a b)), some (.int 1)]) (st' := []) (h' := kv_wd (kv_uf (kv_uf g 11 f) 11 f80) w) rfl ?_
              rw [kv_uf_uf]
              have hh := ih (b + 1) f80 (some (.int (kx_mq q (K k) a b))) (some (.int 1)) (by omega)
              rw [← Nat.add_assoc, kx_nr_n (a := a) (b := b) (by omega) (by omega) (fun z => h83 z.2.2.2.1), nI_succ] at hh
              exact hh
            · refine kx_st 0 (pc' := 86) (L' := [some (.ref 43), some (.ref 1), some (.ref (14 + k)), some (.int ((kx_nr F1 t q (K k) s (6 * a + b)).1)), some (.int ((kx_nr F1 t q (K k) s (6 * a + b)).2)), some (.int (nI a)), some (.int (nI b)), some (.int (kx_mq q (K k) a b)), some (.int 1)]) (st' := []) (h' := kv_wd (kv_uf (kv_uf g 11 f) 11 f80) w) rfl ?_
              refine kx_st 10 (pc' := 20) (L' := [some (.ref 43), some (.ref 1), some (.ref (14 + k)), some (.int ((10 * (nI a)) + (nI b))), some (.int (kx_mq q (K k) a b)), some (.int (nI a)), some (.int ((nI b) + 1)), some (.int (kx_mq q (K k) a b)), some (.int 1)]) (st' := []) (h' := kv_wd (kv_uf (kv_uf g 11 f) 11 f80) w) rfl ?_
              rw [kv_uf_uf]
              have hh := ih (b + 1) f80 (some (.int (kx_mq q (K k) a b))) (some (.int 1)) (by omega)
              rw [← Nat.add_assoc, kx_nr_y (a := a) (b := b) (by omega) (by omega) (by omega) (by omega) (fun z => h65 (by rw [z])) h83 (Or.inr (Int32.not_le.mp h51)), nI_succ] at hh
              exact hh
set_option maxRecDepth 100000 in
theorem lp_xnout {E : kv_V} {d : Nat} {g : kv_S} {w : kv_W} {F0 F1 : kx_FF} {s t m : Nat} {K : Nat → Nat → Int32} (hX : kx_X F0 F1 s t m K g) (q : kx_Q) (hq : kx_hq (g 45) (g 46) (g 44 2) q) (hqb : kx_qb q) (k : Nat) (hkm : k < m) (hK : kx_K s k (K k) (K k)) {P : Option Value → kv_H → Prop} (hP : ∀ f' : Nat → Int32, P (some (.int (kx_nr F1 t q (K k) s 36).1)) (kv_wd (kv_uf g 11 f') w)) : ∀ (nz a : Nat) (f : Nat → Int32) (x6 x7 x8 : Option Value), a + nz = s → kx_V E (d + 8) 65 8 [some (.ref 43), some (.ref 1), some (.ref (14 + k)), some (.int ((kx_nr F1 t q (K k) s (6 * a)).1)), some (.int ((kx_nr F1 t q (K k) s (6 * a)).2)), some (.int (nI a)), x6, x7, x8] [] (kv_wd (kv_uf g 11 f) w) P := by
  have s6 := hX.1.2.1
  have hk : k < 8 := by have := hX.1.2.2.2; omega
  have kk : ∀ c, c < 9 → g (14 + k) c = K k c := hX.2.2.2.2 k hkm
  intro nz
  induction nz with
  | zero =>
    intro a f x6 x7 x8 ha
    have hkN : a = s := by omega
    refine kx_st 3 (pc' := 14) (L' := [some (.ref 43), some (.ref 1), some (.ref (14 + k)), some (.int ((kx_nr F1 t q (K k) s (6 * a)).1)), some (.int ((kx_nr F1 t q (K k) s (6 * a)).2)), some (.int (nI a)), x6, x7, x8]) (st' := [.int ((kv_uf g 11 f) 1 0), .int (nI a)]) (h' := kv_wd (kv_uf g 11 f) w) rfl ?_
    refine kx_bi (t := 111) rfl rfl (fun (h14 : (kv_uf g 11 f) 1 0 ≤ nI a) => ?_) (fun (h14 : ¬ ((kv_uf g 11 f) 1 0 ≤ nI a)) => ?_)
    · refine kx_st 1 (pc' := 112) (L' := [some (.ref 43), some (.ref 1), some (.ref (14 + k)), some (.int ((kx_nr F1 t q (K k) s (6 * a)).1)), some (.int ((kx_nr F1 t q (K k) s (6 * a)).2)), some (.int (nI a)), x6, x7, x8]) (st' := [.int ((kx_nr F1 t q (K k) s (6 * a)).1)]) (h' := kv_wd (kv_uf g 11 f) w) rfl ?_
      refine kx_ret (v := some (.int ((kx_nr F1 t q (K k) s (6 * a)).1))) rfl ?_
      subst hkN
      rw [kx_nr_sk2 (36 - 6 * a) (6 * a) (by omega) (by omega)]
      exact hP f
    · exact absurd (by rw [show (kv_uf g 11 f) 1 0 = nI s from hX.2.1.1]; exact nI_le (by omega) (by omega)) h14
  | succ nz ih =>
    intro a f x6 x7 x8 ha
    refine kx_st 3 (pc' := 14) (L' := [some (.ref 43), some (.ref 1), some (.ref (14 + k)), some (.int ((kx_nr F1 t q (K k) s (6 * a)).1)), some (.int ((kx_nr F1 t q (K k) s (6 * a)).2)), some (.int (nI a)), x6, x7, x8]) (st' := [.int ((kv_uf g 11 f) 1 0), .int (nI a)]) (h' := kv_wd (kv_uf g 11 f) w) rfl ?_
    refine kx_bi (t := 111) rfl rfl (fun (h14 : (kv_uf g 11 f) 1 0 ≤ nI a) => ?_) (fun (h14 : ¬ ((kv_uf g 11 f) 1 0 ≤ nI a)) => ?_)
    · exact absurd h14 (by rw [show (kv_uf g 11 f) 1 0 = nI s from hX.2.1.1]; exact nI_ge (a := a) (b := s) (by omega) (by omega))
    · refine kx_st 0 (pc' := 17) (L' := [some (.ref 43), some (.ref 1), some (.ref (14 + k)), some (.int ((kx_nr F1 t q (K k) s (6 * a)).1)), some (.int ((kx_nr F1 t q (K k) s (6 * a)).2)), some (.int (nI a)), x6, x7, x8]) (st' := []) (h' := kv_wd (kv_uf g 11 f) w) rfl ?_
      refine kx_st 2 (pc' := 20) (L' := [some (.ref 43), some (.ref 1), some (.ref (14 + k)), some (.int ((kx_nr F1 t q (K k) s (6 * a)).1)), some (.int ((kx_nr F1 t q (K k) s (6 * a)).2)), some (.int (nI a)), some (.int 0), x7, x8]) (st' := []) (h' := kv_wd (kv_uf g 11 f) w) rfl ?_
      refine lp_xnin hX q hq hqb k hkm hK a (by omega) (fun f2 y7 y8 => ?_) s 0 f x7 x8 (by omega)
      refine kx_st 2 (pc' := 8) (L' := [some (.ref 43), some (.ref 1), some (.ref (14 + k)), some (.int ((kx_nr F1 t q (K k) s (6 * a + s)).1)), some (.int ((kx_nr F1 t q (K k) s (6 * a + s)).2)), some (.int (nI a + 1)), some (.int (nI s)), y7, y8]) (st' := []) (h' := kv_wd (kv_uf g 11 f2) w) rfl ?_
      rw [kx_nr_sk (6 - s) s (by omega) (by omega), ← nI_succ]
      exact ih (a + 1) f2 _ y7 y8 (by omega)
set_option maxRecDepth 100000 in
theorem ev_nearestPair {E : kv_V} {d : Nat} {g : kv_S} {w : kv_W} {F0 F1 : kx_FF} {s t m : Nat} {K : Nat → Nat → Int32} (hX : kx_X F0 F1 s t m K g) (q : kx_Q) (hq : kx_hq (g 45) (g 46) (g 44 2) q) (hqb : kx_qb q) (k : Nat) (hkm : k < m) (hK : kx_K s k (K k) (K k)) : ∃ f' : Nat → Int32, kv_ev E (d + 9) 65 [.ref 43, .ref 1, .ref (14 + k)] (kv_wd g w) (some (.int ((kx_nr F1 t q (K k) s 36).1))) (kv_wd (kv_uf g 11 f') w) := by
  obtain ⟨v, hf, he, rfl, f', rfl⟩ := kx_evP (E := E) (d := d + 8) (y := 65) (h := kv_wd g w) (as := [.ref 43, .ref 1, .ref (14 + k)]) (P := fun v h => v = (some (.int ((kx_nr F1 t q (K k) s 36).1)) : Option Value) ∧ ∃ f' : Nat → Int32, h = kv_wd (kv_uf g 11 f') w) (by decide) (Nat.le_of_ble_eq_true rfl) (by
    refine kx_st 0 (pc' := 0) (L' := [some (.ref 43), some (.ref 1), some (.ref (14 + k)), none, none, none, none, none, none]) (st' := []) (h' := kv_wd g w) rfl ?_
    refine kx_st 6 (pc' := 8) (L' := [some (.ref 43), some (.ref 1), some (.ref (14 + k)), some (.int (-1)), some (.int 0), some (.int 0), none, none, none]) (st' := []) (h' := kv_wd g w) rfl ?_
    have hh := lp_xnout (E := E) (d := d) (g := g) (w := w) hX q hq hqb k hkm hK (P := fun v h => v = (some (.int (kx_nr F1 t q (K k) s 36).1) : Option Value) ∧ ∃ f' : Nat → Int32, h = kv_wd (kv_uf g 11 f') w) (fun f' => ⟨rfl, f', rfl⟩) s 0 (g 11) none none none (by omega)
    rw [kv_uf_id] at hh
    exact hh)
  exact ⟨f', he⟩
/-- under none that is tied -/
abbrev kx_fr (K : Nat → Nat → Int32) (k : Nat) : Prop := K k 6 < 0 ∨ K (K k 6).toNatClampNeg 7 = 0
theorem kx_fr_u {K : Nat → Nat → Int32} {k u : Nat} (hu : u < 8) (h : K k 6 = nI u) : kx_fr K k ↔ K u 7 = 0 := by
  unfold kx_fr
  rw [h, nI_clamp (by omega)]
  exact ⟨fun z => z.resolve_left (nI_pos (by omega)), Or.inr⟩
theorem kx_fr_n {K : Nat → Nat → Int32} {k : Nat} (h : K k 6 = -1) : kx_fr K k := Or.inl (by rw [h]; decide)
set_option maxRecDepth 100000 in
theorem ev_isHeld_n {E : kv_V} {d : Nat} {g : kv_S} {w : kv_W} {F0 F1 : kx_FF} {s t m : Nat} {K : Nat → Nat → Int32} (hX : kx_X F0 F1 s t m K g) (k : Nat) (hkm : k < m) (h6 : K k 6 = -1) : kv_ev E (d + 2) 22 [.ref 1, .ref (14 + k)] (kv_wd g w) (some (.int 0)) (kv_wd g w) := by
  have hk : k < 8 := by have := hX.1.2.2.2; omega
  have kk : ∀ c, c < 9 → g (14 + k) c = K k c := hX.2.2.2.2 k hkm
  refine kx_ev (d := d + 1) (by decide) (Nat.le_of_ble_eq_true rfl) ?_
  refine kx_st 0 (pc' := 0) (L' := [some (.ref 1), some (.ref (14 + k)), none]) (st' := []) (h' := kv_wd g w) rfl ?_
  refine kx_st 2 (pc' := 2) (L' := [some (.ref 1), some (.ref (14 + k)), none]) (st' := [.ref (14 + k), .ref 1]) (h' := kv_wd g w) rfl ?_
  refine kx_gf (i := 116) (k := 6) (v := .int (-1)) rfl rfl (kv_kn_h hk).1 ((kv_kn_h hk).2 _ _) (congrArg (fun z => some (Value.int z)) ((kk 6 (by omega)).trans h6)) ?_
  refine kx_call (z := 17) (as := [.ref 1, .int (-1)]) (rest := []) (v := some (.null)) (h1 := kv_wd g w) rfl (ev_knotAt_n (d := d) (g := g) (-1) (fun z => absurd z.1 (by decide))) ?_
  refine kx_st 0 (pc' := 8) (L' := [some (.ref 1), some (.ref (14 + k)), none]) (st' := [.null]) (h' := kv_wd g w) rfl ?_
  refine kx_st 2 (pc' := 10) (L' := [some (.ref 1), some (.ref (14 + k)), some (.null)]) (st' := [.null]) (h' := kv_wd g w) rfl ?_
  refine kx_st 1 (pc' := 24) (L' := [some (.ref 1), some (.ref (14 + k)), some (.null)]) (st' := []) (h' := kv_wd g w) rfl ?_
  refine kx_st 1 (pc' := 25) (L' := [some (.ref 1), some (.ref (14 + k)), some (.null)]) (st' := [.int 0]) (h' := kv_wd g w) rfl ?_
  refine kx_ret (v := some (.int 0)) rfl ?_
  exact ⟨rfl, rfl⟩
set_option maxRecDepth 100000 in
theorem ev_isHeld_u {E : kv_V} {d : Nat} {g : kv_S} {w : kv_W} {F0 F1 : kx_FF} {s t m : Nat} {K : Nat → Nat → Int32} (hX : kx_X F0 F1 s t m K g) (hq : kv_qok w) (k u : Nat) (hkm : k < m) (huk : u < k) (h6 : K k 6 = nI u) : kv_ev E (d + 2) 22 [.ref 1, .ref (14 + k)] (kv_wd g w) (some (.int (kx_b (¬ K u 7 = 0)))) (kv_wd g w) := by
  have m8 := hX.1.2.2.2
  have hk : k < 8 := by omega
  have hu : u < 8 := by omega
  have kk : ∀ c, c < 9 → g (14 + k) c = K k c := hX.2.2.2.2 k hkm
  refine kx_ev (d := d + 1) (by decide) (Nat.le_of_ble_eq_true rfl) ?_
  refine kx_st 0 (pc' := 0) (L' := [some (.ref 1), some (.ref (14 + k)), none]) (st' := []) (h' := kv_wd g w) rfl ?_
  refine kx_st 2 (pc' := 2) (L' := [some (.ref 1), some (.ref (14 + k)), none]) (st' := [.ref (14 + k), .ref 1]) (h' := kv_wd g w) rfl ?_
  refine kx_gf (i := 116) (k := 6) (v := .int (nI u)) rfl rfl (kv_kn_h hk).1 ((kv_kn_h hk).2 _ _) (congrArg (fun z => some (Value.int z)) ((kk 6 (by omega)).trans h6)) ?_
  refine kx_call (z := 17) (as := [.ref 1, .int (nI u)]) (rest := []) (v := some (.ref (14 + u))) (h1 := kv_wd g w) rfl (ev_knotAt (d := d) (g := g) hq u hu (by rw [hX.2.1.2.2]; exact nI_lt (by omega) (by omega))) ?_
  refine kx_st 0 (pc' := 8) (L' := [some (.ref 1), some (.ref (14 + k)), none]) (st' := [.ref (14 + u)]) (h' := kv_wd g w) rfl ?_
  refine kx_st 2 (pc' := 10) (L' := [some (.ref 1), some (.ref (14 + k)), some (.ref (14 + u))]) (st' := [.ref (14 + u)]) (h' := kv_wd g w) rfl ?_
  refine kx_st 1 (pc' := 13) (L' := [some (.ref 1), some (.ref (14 + k)), some (.ref (14 + u))]) (st' := []) (h' := kv_wd g w) rfl ?_
  refine kx_st 1 (pc' := 14) (L' := [some (.ref 1), some (.ref (14 + k)), some (.ref (14 + u))]) (st' := [.ref (14 + u)]) (h' := kv_wd g w) rfl ?_
  refine kx_gf (i := 119) (k := 7) (v := .int (g (14 + u) 7)) rfl rfl (kv_kn_h hu).1 ((kv_kn_h hu).2 _ _) rfl ?_
  refine kx_bc (t := 24) rfl rfl (fun (h17 : g (14 + u) 7 = 0) => ?_) (fun (h17 : ¬ (g (14 + u) 7 = 0)) => ?_)
  · refine kx_st 1 (pc' := 25) (L' := [some (.ref 1), some (.ref (14 + k)), some (.ref (14 + u))]) (st' := [.int 0]) (h' := kv_wd g w) rfl ?_
    refine kx_ret (v := some (.int 0)) rfl ?_
    rw [hX.2.2.2.2 u (by omega) 7 (by omega)] at h17
    exact ⟨kx_l0 (fun z => z h17), rfl⟩
  · refine kx_st 0 (pc' := 20) (L' := [some (.ref 1), some (.ref (14 + k)), some (.ref (14 + u))]) (st' := []) (h' := kv_wd g w) rfl ?_
    refine kx_st 2 (pc' := 25) (L' := [some (.ref 1), some (.ref (14 + k)), some (.ref (14 + u))]) (st' := [.int 1]) (h' := kv_wd g w) rfl ?_
    refine kx_ret (v := some (.int 1)) rfl ?_
    rw [hX.2.2.2.2 u (by omega) 7 (by omega)] at h17
    exact ⟨kx_l1 h17, rfl⟩
theorem ev_isHeld {E : kv_V} {d : Nat} {g : kv_S} {w : kv_W} {F0 F1 : kx_FF} {s t m : Nat} {K : Nat → Nat → Int32} (hX : kx_X F0 F1 s t m K g) (hq : kv_qok w) (k : Nat) (hkm : k < m) (hK : kx_K s k (K k) (K k)) : kv_ev E (d + 2) 22 [.ref 1, .ref (14 + k)] (kv_wd g w) (some (.int (kx_b (¬ kx_fr K k)))) (kv_wd g w) := by
  have m8 := hX.1.2.2.2
  rcases hK.2.2.2.2.2.2.1 with h6 | ⟨u, hu, h6⟩
  · rw [kx_b_neg (fun z => z (kx_fr_n h6))]
    exact ev_isHeld_n hX k hkm h6
  · rw [kx_b_congr (show ¬ kx_fr K k ↔ ¬ K u 7 = 0 from not_congr (kx_fr_u (by omega) h6))]
    exact ev_isHeld_u hX hq k u hkm hu h6
set_option maxRecDepth 100000 in
theorem ev_isFree_n {E : kv_V} {d : Nat} {g : kv_S} {w : kv_W} {F0 F1 : kx_FF} {s t m : Nat} {K : Nat → Nat → Int32} (hM : kx_M F0 F1 s t m K (g 66)) (k : Nat) (hkm : k < m) (h6 : K k 6 = -1) : kv_ev E (d + 2) 173 [.ref 65, .int (nI k)] (kv_wd g w) (some (.int 1)) (kv_wd g w) := by
  have m8 := hM.1.2.2.2
  have hk : k < 8 := by omega
  have kk : ∀ c, c < 9 → g 66 (26 + 9 * k + c) = K k c := hM.2.2.2.2 k hkm
  have e6 := ev_its (E := E) (d := d) (g := g) (w := w) k 6 (by omega)
  rw [kk 6 (by omega), h6] at e6
  refine kx_ev (d := d + 1) (by decide) (Nat.le_of_ble_eq_true rfl) ?_
  refine kx_st 0 (pc' := 0) (L' := [some (.ref 65), some (.int (nI k))]) (st' := []) (h' := kv_wd g w) rfl ?_
  refine kx_st 3 (pc' := 4) (L' := [some (.ref 65), some (.int (nI k))]) (st' := [.int 6, .int (nI k), .ref 65]) (h' := kv_wd g w) rfl ?_
  refine kx_call (z := 136) (as := [.ref 65, .int (nI k), .int 6]) (rest := []) (v := some (.int (-1))) (h1 := kv_wd g w) rfl e6 ?_
  refine kx_st 0 (pc' := 7) (L' := [some (.ref 65), some (.int (nI k))]) (st' := [.int (-1)]) (h' := kv_wd g w) rfl ?_
  refine kx_st 1 (pc' := 26) (L' := [some (.ref 65), some (.int (nI k))]) (st' := []) (h' := kv_wd g w) rfl ?_
  refine kx_st 2 (pc' := 31) (L' := [some (.ref 65), some (.int (nI k))]) (st' := [.int 1]) (h' := kv_wd g w) rfl ?_
  refine kx_ret (v := some (.int 1)) rfl ?_
  exact ⟨rfl, rfl⟩
set_option maxRecDepth 100000 in
theorem ev_isFree_u {E : kv_V} {d : Nat} {g : kv_S} {w : kv_W} {F0 F1 : kx_FF} {s t m : Nat} {K : Nat → Nat → Int32} (hM : kx_M F0 F1 s t m K (g 66)) (k : Nat) (hkm : k < m) (u : Nat) (huk : u < k) (h6 : K k 6 = nI u) : kv_ev E (d + 2) 173 [.ref 65, .int (nI k)] (kv_wd g w) (some (.int (kx_b (K u 7 = 0)))) (kv_wd g w) := by
  have m8 := hM.1.2.2.2
  have hk : k < 8 := by omega
  have kk : ∀ c, c < 9 → g 66 (26 + 9 * k + c) = K k c := hM.2.2.2.2 k hkm
  have e6 := ev_its (E := E) (d := d) (g := g) (w := w) k 6 (by omega)
  rw [kk 6 (by omega), h6] at e6
  have e7 := ev_its (E := E) (d := d) (g := g) (w := w) u 7 (by omega)
  rw [hM.2.2.2.2 u (by omega) 7 (by omega)] at e7
  refine kx_ev (d := d + 1) (by decide) (Nat.le_of_ble_eq_true rfl) ?_
  refine kx_st 0 (pc' := 0) (L' := [some (.ref 65), some (.int (nI k))]) (st' := []) (h' := kv_wd g w) rfl ?_
  refine kx_st 3 (pc' := 4) (L' := [some (.ref 65), some (.int (nI k))]) (st' := [.int 6, .int (nI k), .ref 65]) (h' := kv_wd g w) rfl ?_
  refine kx_call (z := 136) (as := [.ref 65, .int (nI k), .int 6]) (rest := []) (v := some (.int (nI u))) (h1 := kv_wd g w) rfl e6 ?_
  refine kx_st 0 (pc' := 7) (L' := [some (.ref 65), some (.int (nI k))]) (st' := [.int (nI u)]) (h' := kv_wd g w) rfl ?_
  refine kx_bc (t := 26) rfl rfl (fun (h7 : nI u < 0) => ?_) (fun (h7 : ¬ (nI u < 0)) => ?_)
  · exact absurd h7 (nI_pos (by omega))
  · refine kx_st 0 (pc' := 10) (L' := [some (.ref 65), some (.int (nI k))]) (st' := []) (h' := kv_wd g w) rfl ?_
    refine kx_st 4 (pc' := 15) (L' := [some (.ref 65), some (.int (nI k))]) (st' := [.int 6, .int (nI k), .ref 65, .ref 65]) (h' := kv_wd g w) rfl ?_
    refine kx_call (z := 136) (as := [.ref 65, .int (nI k), .int 6]) (rest := [.ref 65]) (v := some (.int (nI u))) (h1 := kv_wd g w) rfl e6 ?_
    refine kx_st 0 (pc' := 18) (L' := [some (.ref 65), some (.int (nI k))]) (st' := [.int (nI u), .ref 65]) (h' := kv_wd g w) rfl ?_
    refine kx_st 1 (pc' := 20) (L' := [some (.ref 65), some (.int (nI k))]) (st' := [.int 7, .int (nI u), .ref 65]) (h' := kv_wd g w) rfl ?_
    refine kx_call (z := 136) (as := [.ref 65, .int (nI u), .int 7]) (rest := []) (v := some (.int (K u 7))) (h1 := kv_wd g w) rfl e7 ?_
    refine kx_st 0 (pc' := 23) (L' := [some (.ref 65), some (.int (nI k))]) (st' := [.int (K u 7)]) (h' := kv_wd g w) rfl ?_
    refine kx_bc (t := 30) rfl rfl (fun (h23 : ¬ K u 7 = 0) => ?_) (fun (h23 : ¬ (¬ K u 7 = 0)) => ?_)
    · refine kx_st 1 (pc' := 31) (L' := [some (.ref 65), some (.int (nI k))]) (st' := [.int 0]) (h' := kv_wd g w) rfl ?_
      refine kx_ret (v := some (.int 0)) rfl ?_
      exact ⟨kx_l0 h23, rfl⟩
    · refine kx_st 0 (pc' := 26) (L' := [some (.ref 65), some (.int (nI k))]) (st' := []) (h' := kv_wd g w) rfl ?_
      refine kx_st 2 (pc' := 31) (L' := [some (.ref 65), some (.int (nI k))]) (st' := [.int 1]) (h' := kv_wd g w) rfl ?_
      refine kx_ret (v := some (.int 1)) rfl ?_
      exact ⟨kx_l1 (Classical.not_not.mp h23), rfl⟩
theorem ev_isFree {E : kv_V} {d : Nat} {g : kv_S} {w : kv_W} {F0 F1 : kx_FF} {s t m : Nat} {K : Nat → Nat → Int32} (hM : kx_M F0 F1 s t m K (g 66)) (k : Nat) (hkm : k < m) (hK : kx_K s k (K k) (K k)) : kv_ev E (d + 2) 173 [.ref 65, .int (nI k)] (kv_wd g w) (some (.int (kx_b (kx_fr K k)))) (kv_wd g w) := by
  have m8 := hM.1.2.2.2
  rcases hK.2.2.2.2.2.2.1 with h6 | ⟨u, hu, h6⟩
  · rw [kx_b_pos (kx_fr_n h6)]
    exact ev_isFree_n hM k hkm h6
  · rw [kx_b_congr (kx_fr_u (by omega) h6)]
    exact ev_isFree_u hM k hkm u hu h6
