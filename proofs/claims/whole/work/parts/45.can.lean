/-! CAN: who could undo what, on both sides -/
def kx_ms (p c : Int32) : Int32 := if p < c then c - p else p - c
theorem kx_abs {x y z : Nat} (hx : x ≤ 99) (hy : y ≤ 99) (hz : z ≤ 198) : (if 0 ≤ (nI x + nI y) - nI z then (nI x + nI y) - nI z else 0 - ((nI x + nI y) - nI z)) = kx_ms (nI x + nI y) (nI z) := by
  rw [kx_nadd]
  have e : (nI (x + y) - nI z).toInt = ((x + y : Nat) : Int) - z := by
    rw [Int32.toInt_sub, nI_toInt (by omega), nI_toInt (by omega)]
    simp only [Int.bmod]
    omega
  have h0 : (0 : Int32).toInt = 0 := rfl
  unfold kx_ms
  by_cases h : x + y < z
  · rw [if_neg (by rw [Int32.le_iff_toInt_le, e, h0]; omega), if_pos (nI_lt h (by omega))]
    grind
  · rw [if_pos (by rw [Int32.le_iff_toInt_le, e, h0]; omega), if_neg (nI_nlt (by omega) (by omega))]
def kx_mq (q : kx_Q) (K : Nat → Int32) (a b : Nat) : Int32 := kx_ms (q.2.1 a + q.1 b) (K 4)
abbrev kx_ow (K : Nat → Int32) (a b : Nat) : Prop := (nI a = K 2 ∧ nI b = K 3) ∨ (nI a = K 3 ∧ nI b = K 2)
/-- all but who is there and what is tied -/
abbrev kx_lsn (F1 : kx_FF) (q : kx_Q) (K : Nat → Int32) (a b : Nat) : Prop := kx_mq q K a b ≤ kx_ez (K 0) (K 1) (K 8) (K 5) (nI q.2.2) ∧ (kx_ow K a b ∨ ¬ F1 (kx_mq q K a b) (K 1) (K 8) = 0)
abbrev kx_cn (F1 : kx_FF) (t : Nat) (q : kx_Q) (K : Nat → Int32) (a b : Nat) : Prop := K 7 = 1 ∧ (t.testBit a = true ∧ t.testBit b = true) ∧ kx_lsn F1 q K a b
theorem kx_K_tied {s k : Nat} {K : Nat → Int32} (h : kx_K s k K K) : K 7 = 0 ∨ K 7 = 1 := h.2.2.2.2.2.2.2.1
theorem kx_xt {K : Nat → Int32} (h : K 7 = 0 ∨ K 7 = 1) (h2 : ¬ K 7 = 0) : K 7 = 1 := h.resolve_left h2
theorem kx_xtn {x : Int32} (h2 : x = 0) : ¬ x = 1 := by rw [h2]; decide
set_option maxRecDepth 100000 in
theorem ev_misses {E : kv_V} {d : Nat} {g : kv_S} {w : kv_W} {h : Nat} (hh : kv_hd h) (k : Nat) (hk : k < 8) (a b : Nat) (ha : a < 6) (hb : b < 6) (h1 : ∃ x, x ≤ 99 ∧ g (h + 2) a = nI x) (h2 : ∃ x, x ≤ 99 ∧ g (h + 1) b = nI x) (h3 : ∃ x, x ≤ 198 ∧ g (14 + k) 4 = nI x) : kv_ev E (d + 3) 33 [.ref (14 + k), .ref h, .int (nI a), .int (nI b)] (kv_wd g w) (some (.int (kx_ms (g (h + 2) a + g (h + 1) b) (g (14 + k) 4)))) (kv_wd g w) := by
  refine kx_ev (d := d + 2) (by decide) (Nat.le_of_ble_eq_true rfl) ?_
  refine kx_st 0 (pc' := 0) (L' := [some (.ref (14 + k)), some (.ref h), some (.int (nI a)), some (.int (nI b))]) (st' := []) (h' := kv_wd g w) rfl ?_
  refine kx_st 3 (pc' := 3) (L' := [some (.ref (14 + k)), some (.ref h), some (.int (nI a)), some (.int (nI b))]) (st' := [.int (nI b), .int (nI a), .ref h]) (h' := kv_wd g w) rfl ?_
  refine kx_call (z := 5) (as := [.ref h, .int (nI a), .int (nI b)]) (rest := []) (v := some (.int (g (h + 2) a + g (h + 1) b))) (h1 := kv_wd g w) (kx_cv (b := h) (A := [.int (nI a), .int (nI b)]) (rest := []) rfl rfl rfl rfl (Nat.le_of_ble_eq_true rfl) hh.1 (hh.2.1 _ _)) (ev_pull (d := d) hh a b ha hb) ?_
  refine kx_st 0 (pc' := 6) (L' := [some (.ref (14 + k)), some (.ref h), some (.int (nI a)), some (.int (nI b))]) (st' := [.int (g (h + 2) a + g (h + 1) b)]) (h' := kv_wd g w) rfl ?_
  refine kx_st 1 (pc' := 7) (L' := [some (.ref (14 + k)), some (.ref h), some (.int (nI a)), some (.int (nI b))]) (st' := [.ref (14 + k), .int (g (h + 2) a + g (h + 1) b)]) (h' := kv_wd g w) rfl ?_
  refine kx_gf (i := 22) (k := 4) (v := .int (g (14 + k) 4)) rfl rfl (kv_kn_h hk).1 ((kv_kn_h hk).2 _ _) rfl ?_
  refine kx_st 2 (pc' := 14) (L' := [some (.ref (14 + k)), some (.ref h), some (.int (nI a)), some (.int (nI b))]) (st' := [.int (if 0 ≤ (g (h + 2) a + g (h + 1) b) - (g (14 + k) 4) then (g (h + 2) a + g (h + 1) b) - (g (14 + k) 4) else 0 - ((g (h + 2) a + g (h + 1) b) - (g (14 + k) 4)))]) (h' := kv_wd g w) rfl ?_
  refine kx_ret (v := some (.int (if 0 ≤ (g (h + 2) a + g (h + 1) b) - (g (14 + k) 4) then (g (h + 2) a + g (h + 1) b) - (g (14 + k) 4) else 0 - ((g (h + 2) a + g (h + 1) b) - (g (14 + k) 4))))) rfl ?_
  obtain ⟨x1, y1, z1⟩ := h1
  obtain ⟨x2, y2, z2⟩ := h2
  obtain ⟨x3, y3, z3⟩ := h3
  exact ⟨by rw [z1, z2, z3, kx_abs y1 y2 y3], rfl⟩
set_option maxRecDepth 100000 in
theorem ev_wasBound {E : kv_V} {d : Nat} {g : kv_S} {w : kv_W} (k : Nat) (hk : k < 8) (a b : Int32) : kv_ev E (d + 1) 34 [.ref (14 + k), .int a, .int b] (kv_wd g w) (some (.int (kx_b ((a = g (14 + k) 2 ∧ b = g (14 + k) 3) ∨ (a = g (14 + k) 3 ∧ b = g (14 + k) 2))))) (kv_wd g w) := by
  refine kx_ev (d := d + 0) (by decide) (Nat.le_of_ble_eq_true rfl) ?_
  refine kx_st 0 (pc' := 0) (L' := [some (.ref (14 + k)), some (.int a), some (.int b)]) (st' := []) (h' := kv_wd g w) rfl ?_
  refine kx_st 2 (pc' := 2) (L' := [some (.ref (14 + k)), some (.int a), some (.int b)]) (st' := [.ref (14 + k), .int a]) (h' := kv_wd g w) rfl ?_
  refine kx_gf (i := 16) (k := 2) (v := .int (g (14 + k) 2)) rfl rfl (kv_kn_h hk).1 ((kv_kn_h hk).2 _ _) rfl ?_
  refine kx_bi (t := 16) rfl rfl (fun (h5 : ¬ a = g (14 + k) 2) => ?_) (fun (h5 : ¬ (¬ a = g (14 + k) 2)) => ?_)
  · refine kx_st 2 (pc' := 18) (L' := [some (.ref (14 + k)), some (.int a), some (.int b)]) (st' := [.ref (14 + k), .int a]) (h' := kv_wd g w) rfl ?_
    refine kx_gf (i := 19) (k := 3) (v := .int (g (14 + k) 3)) rfl rfl (kv_kn_h hk).1 ((kv_kn_h hk).2 _ _) rfl ?_
    refine kx_bi (t := 36) rfl rfl (fun (h21 : ¬ a = g (14 + k) 3) => ?_) (fun (h21 : ¬ (¬ a = g (14 + k) 3)) => ?_)
    · refine kx_st 1 (pc' := 37) (L' := [some (.ref (14 + k)), some (.int a), some (.int b)]) (st' := [.int 0]) (h' := kv_wd g w) rfl ?_
      refine kx_ret (v := some (.int 0)) rfl ?_
      exact ⟨kx_l0 (by grind), rfl⟩
    · refine kx_st 0 (pc' := 24) (L' := [some (.ref (14 + k)), some (.int a), some (.int b)]) (st' := []) (h' := kv_wd g w) rfl ?_
      refine kx_st 2 (pc' := 26) (L' := [some (.ref (14 + k)), some (.int a), some (.int b)]) (st' := [.ref (14 + k), .int b]) (h' := kv_wd g w) rfl ?_
      refine kx_gf (i := 16) (k := 2) (v := .int (g (14 + k) 2)) rfl rfl (kv_kn_h hk).1 ((kv_kn_h hk).2 _ _) rfl ?_
      refine kx_bi (t := 36) rfl rfl (fun (h29 : ¬ b = g (14 + k) 2) => ?_) (fun (h29 : ¬ (¬ b = g (14 + k) 2)) => ?_)
      · refine kx_st 1 (pc' := 37) (L' := [some (.ref (14 + k)), some (.int a), some (.int b)]) (st' := [.int 0]) (h' := kv_wd g w) rfl ?_
        refine kx_ret (v := some (.int 0)) rfl ?_
        exact ⟨kx_l0 (by grind), rfl⟩
      · refine kx_st 0 (pc' := 32) (L' := [some (.ref (14 + k)), some (.int a), some (.int b)]) (st' := []) (h' := kv_wd g w) rfl ?_
        refine kx_st 2 (pc' := 37) (L' := [some (.ref (14 + k)), some (.int a), some (.int b)]) (st' := [.int 1]) (h' := kv_wd g w) rfl ?_
        refine kx_ret (v := some (.int 1)) rfl ?_
        exact ⟨kx_l1 (by grind), rfl⟩
  · refine kx_st 0 (pc' := 8) (L' := [some (.ref (14 + k)), some (.int a), some (.int b)]) (st' := []) (h' := kv_wd g w) rfl ?_
    refine kx_st 2 (pc' := 10) (L' := [some (.ref (14 + k)), some (.int a), some (.int b)]) (st' := [.ref (14 + k), .int b]) (h' := kv_wd g w) rfl ?_
    refine kx_gf (i := 19) (k := 3) (v := .int (g (14 + k) 3)) rfl rfl (kv_kn_h hk).1 ((kv_kn_h hk).2 _ _) rfl ?_
    refine kx_bi (t := 32) rfl rfl (fun (h13 : b = g (14 + k) 3) => ?_) (fun (h13 : ¬ (b = g (14 + k) 3)) => ?_)
    · refine kx_st 2 (pc' := 37) (L' := [some (.ref (14 + k)), some (.int a), some (.int b)]) (st' := [.int 1]) (h' := kv_wd g w) rfl ?_
      refine kx_ret (v := some (.int 1)) rfl ?_
      exact ⟨kx_l1 (by grind), rfl⟩
    · refine kx_st 0 (pc' := 16) (L' := [some (.ref (14 + k)), some (.int a), some (.int b)]) (st' := []) (h' := kv_wd g w) rfl ?_
      refine kx_st 2 (pc' := 18) (L' := [some (.ref (14 + k)), some (.int a), some (.int b)]) (st' := [.ref (14 + k), .int a]) (h' := kv_wd g w) rfl ?_
      refine kx_gf (i := 19) (k := 3) (v := .int (g (14 + k) 3)) rfl rfl (kv_kn_h hk).1 ((kv_kn_h hk).2 _ _) rfl ?_
      refine kx_bi (t := 36) rfl rfl (fun (h21 : ¬ a = g (14 + k) 3) => ?_) (fun (h21 : ¬ (¬ a = g (14 + k) 3)) => ?_)
      · refine kx_st 1 (pc' := 37) (L' := [some (.ref (14 + k)), some (.int a), some (.int b)]) (st' := [.int 0]) (h' := kv_wd g w) rfl ?_
        refine kx_ret (v := some (.int 0)) rfl ?_
        exact ⟨kx_l0 (by grind), rfl⟩
      · refine kx_st 0 (pc' := 24) (L' := [some (.ref (14 + k)), some (.int a), some (.int b)]) (st' := []) (h' := kv_wd g w) rfl ?_
        refine kx_st 2 (pc' := 26) (L' := [some (.ref (14 + k)), some (.int a), some (.int b)]) (st' := [.ref (14 + k), .int b]) (h' := kv_wd g w) rfl ?_
        refine kx_gf (i := 16) (k := 2) (v := .int (g (14 + k) 2)) rfl rfl (kv_kn_h hk).1 ((kv_kn_h hk).2 _ _) rfl ?_
        refine kx_bi (t := 36) rfl rfl (fun (h29 : ¬ b = g (14 + k) 2) => ?_) (fun (h29 : ¬ (¬ b = g (14 + k) 2)) => ?_)
        · refine kx_st 1 (pc' := 37) (L' := [some (.ref (14 + k)), some (.int a), some (.int b)]) (st' := [.int 0]) (h' := kv_wd g w) rfl ?_
          refine kx_ret (v := some (.int 0)) rfl ?_
          exact ⟨kx_l0 (by grind), rfl⟩
        · refine kx_st 0 (pc' := 32) (L' := [some (.ref (14 + k)), some (.int a), some (.int b)]) (st' := []) (h' := kv_wd g w) rfl ?_
          refine kx_st 2 (pc' := 37) (L' := [some (.ref (14 + k)), some (.int a), some (.int b)]) (st' := [.int 1]) (h' := kv_wd g w) rfl ?_
          refine kx_ret (v := some (.int 1)) rfl ?_
          exact ⟨kx_l1 (by grind), rfl⟩
set_option maxRecDepth 100000 in
theorem ev_loosens {E : kv_V} {d : Nat} {g : kv_S} {w : kv_W} {F0 F1 : kx_FF} {s t m : Nat} {K : Nat → Nat → Int32} (hX : kx_X F0 F1 s t m K g) (q : kx_Q) (hq : kx_hq (g 45) (g 46) (g 44 2) q) (hqb : kx_qb q) (k : Nat) (hkm : k < m) (hK : kx_K s k (K k) (K k)) (a b : Nat) (ha : a < 6) (hb : b < 6) : ∃ f' : Nat → Int32, kv_ev E (d + 7) 62 [.ref 43, .ref 1, .ref (14 + k), .int (nI a), .int (nI b)] (kv_wd g w) (some (.int (kx_b (kx_lsn F1 q (K k) a b)))) (kv_wd (kv_uf g 11 f') w) := by
  have hk : k < 8 := by have := hX.1.2.2.2; omega
  have kk : ∀ c, c < 9 → g (14 + k) c = K k c := hX.2.2.2.2 k hkm
  have e1 : kx_ms (g 46 a + g 45 b) (g (14 + k) 4) = kx_mq q (K k) a b := by rw [(hq.1 a ha).2, (hq.1 b hb).1, kk 4 (by omega)]; rfl
  have em := ev_misses (E := E) (d := d + 3) (w := w) kv_hd44 k hk a b ha hb (by obtain ⟨x, h1, h2⟩ := (hqb a ha).2; exact ⟨x, h1, (hq.1 a ha).2.trans h2⟩) (by obtain ⟨x, h1, h2⟩ := (hqb b hb).1; exact ⟨x, h1, (hq.1 b hb).1.trans h2⟩) (by obtain ⟨x, h1, h2⟩ := hK.2.2.2.2.1; exact ⟨x, h1, (kk 4 (by omega)).trans h2⟩)
  rw [e1] at em
  obtain ⟨x1, hx1, hx2⟩ := hK.2.2.1
  have ez := ev_ease (E := E) (d := d + 5) (w := w) k hk x1 hx1 ((kk 1 (by omega)).trans hx2) (g 44 2)
  rw [kk 0 (by omega), kk 1 (by omega), kk 8 (by omega), kk 5 (by omega), hq.2] at ez
  have ew := ev_wasBound (E := E) (d := d + 5) (g := g) (w := w) k hk (nI a) (nI b)
  rw [kx_b_congr (show _ ↔ kx_ow (K k) a b by rw [kk 2 (by omega), kk 3 (by omega)])] at ew
  obtain ⟨v, hf, he, rfl, f', rfl⟩ := kx_evP (E := E) (d := d + 6) (y := 62) (h := kv_wd g w) (as := [.ref 43, .ref 1, .ref (14 + k), .int (nI a), .int (nI b)]) (P := fun v h => v = (some (.int (kx_b (kx_lsn F1 q (K k) a b))) : Option Value) ∧ ∃ f' : Nat → Int32, h = kv_wd (kv_uf g 11 f') w) (by decide) (Nat.le_of_ble_eq_true rfl) (by
    refine kx_st 0 (pc' := 0) (L' := [some (.ref 43), some (.ref 1), some (.ref (14 + k)), some (.int (nI a)), some (.int (nI b)), none]) (st' := []) (h' := kv_wd g w) rfl ?_
    refine kx_st 5 (pc' := 8) (L' := [some (.ref 43), some (.ref 1), some (.ref (14 + k)), some (.int (nI a)), some (.int (nI b)), none]) (st' := [.int (nI b), .int (nI a), .ref 44, .ref (14 + k)]) (h' := kv_wd g w) rfl ?_
    refine kx_call (z := 33) (as := [.ref (14 + k), .ref 44, .int (nI a), .int (nI b)]) (rest := []) (v := some (.int (kx_mq q (K k) a b))) (h1 := kv_wd g w) (kx_cv (b := 14 + k) (A := [.ref 44, .int (nI a), .int (nI b)]) (rest := []) rfl rfl rfl rfl (Nat.le_of_ble_eq_true rfl) (kv_kn_h hk).1 ((kv_kn_h hk).2 _ _)) em ?_
    refine kx_st 0 (pc' := 11) (L' := [some (.ref 43), some (.ref 1), some (.ref (14 + k)), some (.int (nI a)), some (.int (nI b)), none]) (st' := [.int (kx_mq q (K k) a b)]) (h' := kv_wd g w) rfl ?_
    refine kx_st 6 (pc' := 23) (L' := [some (.ref 43), some (.ref 1), some (.ref (14 + k)), some (.int (nI a)), some (.int (nI b)), some (.int (kx_mq q (K k) a b))]) (st' := [.int (g 44 2), .ref (14 + k), .int (kx_mq q (K k) a b)]) (h' := kv_wd g w) rfl ?_
    refine kx_call (z := 32) (as := [.ref (14 + k), .int (g 44 2)]) (rest := [.int (kx_mq q (K k) a b)]) (v := some (.int (kx_ez (K k 0) (K k 1) (K k 8) (K k 5) (nI q.2.2)))) (h1 := kv_wd g w) (kx_cv (b := 14 + k) (A := [.int (g 44 2)]) (rest := [.int (kx_mq q (K k) a b)]) rfl rfl rfl rfl (Nat.le_of_ble_eq_true rfl) (kv_kn_h hk).1 ((kv_kn_h hk).2 _ _)) (by rw [hq.2]; exact ez) ?_
    refine kx_st 0 (pc' := 26) (L' := [some (.ref 43), some (.ref 1), some (.ref (14 + k)), some (.int (nI a)), some (.int (nI b)), some (.int (kx_mq q (K k) a b))]) (st' := [.int (kx_ez (K k 0) (K k 1) (K k 8) (K k 5) (nI q.2.2)), .int (kx_mq q (K k) a b)]) (h' := kv_wd g w) rfl ?_
    refine kx_bi (t := 31) rfl rfl (fun (h26 : kx_mq q (K k) a b ≤ kx_ez (K k 0) (K k 1) (K k 8) (K k 5) (nI q.2.2)) => ?_) (fun (h26 : ¬ (kx_mq q (K k) a b ≤ kx_ez (K k 0) (K k 1) (K k 8) (K k 5) (nI q.2.2))) => ?_)
    · refine kx_st 3 (pc' := 35) (L' := [some (.ref 43), some (.ref 1), some (.ref (14 + k)), some (.int (nI a)), some (.int (nI b)), some (.int (kx_mq q (K k) a b))]) (st' := [.int (nI b), .int (nI a), .ref (14 + k)]) (h' := kv_wd g w) rfl ?_
      refine kx_call (z := 34) (as := [.ref (14 + k), .int (nI a), .int (nI b)]) (rest := []) (v := some (.int (kx_b (kx_ow (K k) a b)))) (h1 := kv_wd g w) (kx_cv (b := 14 + k) (A := [.int (nI a), .int (nI b)]) (rest := []) rfl rfl rfl rfl (Nat.le_of_ble_eq_true rfl) (kv_kn_h hk).1 ((kv_kn_h hk).2 _ _)) ew ?_
      refine kx_st 0 (pc' := 38) (L' := [some (.ref 43), some (.ref 1), some (.ref (14 + k)), some (.int (nI a)), some (.int (nI b)), some (.int (kx_mq q (K k) a b))]) (st' := [.int (kx_b (kx_ow (K k) a b))]) (h' := kv_wd g w) rfl ?_
      refine kx_bn (t := 61) rfl rfl (fun (h38 : (kx_ow (K k) a b)) => ?_) (fun (h38 : ¬ (kx_ow (K k) a b)) => ?_)
      · refine kx_st 2 (pc' := 66) (L' := [some (.ref 43), some (.ref 1), some (.ref (14 + k)), some (.int (nI a)), some (.int (nI b)), some (.int (kx_mq q (K k) a b))]) (st' := [.int 1]) (h' := kv_wd g w) rfl ?_
        refine kx_ret (v := some (.int 1)) rfl ?_
        exact ⟨kx_l1 ⟨h26, Or.inl h38⟩, g 11, by rw [kv_uf_id]⟩
      · refine kx_st 0 (pc' := 41) (L' := [some (.ref 43), some (.ref 1), some (.ref (14 + k)), some (.int (nI a)), some (.int (nI b)), some (.int (kx_mq q (K k) a b))]) (st' := []) (h' := kv_wd g w) rfl ?_
        refine kx_st 4 (pc' := 48) (L' := [some (.ref 43), some (.ref 1), some (.ref (14 + k)), some (.int (nI a)), some (.int (nI b)), some (.int (kx_mq q (K k) a b))]) (st' := [.ref (14 + k), .int (kx_mq q (K k) a b), .ref 9]) (h' := kv_wd g w) rfl ?_
        refine kx_gf (i := 56) (k := 1) (v := .int (g (14 + k) 1)) rfl rfl (kv_kn_h hk).1 ((kv_kn_h hk).2 _ _) rfl ?_
        refine kx_st 1 (pc' := 52) (L' := [some (.ref 43), some (.ref 1), some (.ref (14 + k)), some (.int (nI a)), some (.int (nI b)), some (.int (kx_mq q (K k) a b))]) (st' := [.ref (14 + k), .int (g (14 + k) 1), .int (kx_mq q (K k) a b), .ref 9]) (h' := kv_wd g w) rfl ?_
        refine kx_gf (i := 59) (k := 8) (v := .int (g (14 + k) 8)) rfl rfl (kv_kn_h hk).1 ((kv_kn_h hk).2 _ _) rfl ?_
        obtain ⟨f55, e55⟩ := ev_giv1 (E := E) (d := d + 1) (g := g) (w := w) hX (kx_mq q (K k) a b) (g (14 + k) 1) (g (14 + k) 8)
        refine kx_call (z := 39) (as := [.ref 9, .int (kx_mq q (K k) a b), .int (g (14 + k) 1), .int (g (14 + k) 8)]) (rest := []) (v := some (.int (F1 (kx_mq q (K k) a b) (g (14 + k) 1) (g (14 + k) 8)))) (h1 := kv_wd (kv_uf g 11 f55) w) rfl e55 ?_
        refine kx_st 0 (pc' := 58) (L' := [some (.ref 43), some (.ref 1), some (.ref (14 + k)), some (.int (nI a)), some (.int (nI b)), some (.int (kx_mq q (K k) a b))]) (st' := [.int (F1 (kx_mq q (K k) a b) (g (14 + k) 1) (g (14 + k) 8))]) (h' := kv_wd (kv_uf g 11 f55) w) rfl ?_
        refine kx_bc (t := 65) rfl rfl (fun (h58 : F1 (kx_mq q (K k) a b) (g (14 + k) 1) (g (14 + k) 8) = 0) => ?_) (fun (h58 : ¬ (F1 (kx_mq q (K k) a b) (g (14 + k) 1) (g (14 + k) 8) = 0)) => ?_)
        · refine kx_st 1 (pc' := 66) (L' := [some (.ref 43), some (.ref 1), some (.ref (14 + k)), some (.int (nI a)), some (.int (nI b)), some (.int (kx_mq q (K k) a b))]) (st' := [.int 0]) (h' := kv_wd (kv_uf g 11 f55) w) rfl ?_
          refine kx_ret (v := some (.int 0)) rfl ?_
          exact ⟨kx_l0 (fun z => z.2.elim h38 (fun y => y (by rw [← kk 1 (by omega), ← kk 8 (by omega)]; exact h58))), f55, rfl⟩
        · refine kx_st 0 (pc' := 61) (L' := [some (.ref 43), some (.ref 1), some (.ref (14 + k)), some (.int (nI a)), some (.int (nI b)), some (.int (kx_mq q (K k) a b))]) (st' := []) (h' := kv_wd (kv_uf g 11 f55) w) rfl ?_
          refine kx_st 2 (pc' := 66) (L' := [some (.ref 43), some (.ref 1), some (.ref (14 + k)), some (.int (nI a)), some (.int (nI b)), some (.int (kx_mq q (K k) a b))]) (st' := [.int 1]) (h' := kv_wd (kv_uf g 11 f55) w) rfl ?_
          refine kx_ret (v := some (.int 1)) rfl ?_
          exact ⟨kx_l1 ⟨h26, Or.inr (by rw [← kk 1 (by omega), ← kk 8 (by omega)]; exact h58)⟩, f55, rfl⟩
    · refine kx_st 0 (pc' := 29) (L' := [some (.ref 43), some (.ref 1), some (.ref (14 + k)), some (.int (nI a)), some (.int (nI b)), some (.int (kx_mq q (K k) a b))]) (st' := []) (h' := kv_wd g w) rfl ?_
      refine kx_st 1 (pc' := 30) (L' := [some (.ref 43), some (.ref 1), some (.ref (14 + k)), some (.int (nI a)), some (.int (nI b)), some (.int (kx_mq q (K k) a b))]) (st' := [.int 0]) (h' := kv_wd g w) rfl ?_
      refine kx_ret (v := some (.int 0)) rfl ?_
      exact ⟨kx_l0 (fun z => h26 z.1), g 11, by rw [kv_uf_id]⟩)
  exact ⟨f', he⟩
set_option maxRecDepth 100000 in
theorem ev_areThereT {E : kv_V} {d : Nat} {g : kv_S} {w : kv_W} {F0 F1 : kx_FF} {s t m : Nat} {K : Nat → Nat → Int32} (hX : kx_X F0 F1 s t m K g) (a b : Nat) (ha : a < s) (hb : b < s) : kv_ev E (d + 3) 14 [.ref 1, .int (nI a), .int (nI b)] (kv_wd g w) (some (.int (kx_b (t.testBit a = true ∧ t.testBit b = true)))) (kv_wd g w) := by
  refine kx_ev (d := d + 2) (by decide) (Nat.le_of_ble_eq_true rfl) ?_
  refine kx_st 0 (pc' := 0) (L' := [some (.ref 1), some (.int (nI a)), some (.int (nI b))]) (st' := []) (h' := kv_wd g w) rfl ?_
  refine kx_st 2 (pc' := 2) (L' := [some (.ref 1), some (.int (nI a)), some (.int (nI b))]) (st' := [.int (nI a), .ref 1]) (h' := kv_wd g w) rfl ?_
  refine kx_call (z := 13) (as := [.ref 1, .int (nI a)]) (rest := []) (v := some (.int (kx_b (t.testBit a = true)))) (h1 := kv_wd g w) rfl (ev_isThereT (d := d) hX a ha) ?_
  refine kx_st 0 (pc' := 5) (L' := [some (.ref 1), some (.int (nI a)), some (.int (nI b))]) (st' := [.int (kx_b (t.testBit a = true))]) (h' := kv_wd g w) rfl ?_
  refine kx_be (t := 20) rfl rfl (fun (h5 : ¬ (t.testBit a = true)) => ?_) (fun (h5 : (t.testBit a = true)) => ?_)
  · refine kx_st 1 (pc' := 21) (L' := [some (.ref 1), some (.int (nI a)), some (.int (nI b))]) (st' := [.int 0]) (h' := kv_wd g w) rfl ?_
    refine kx_ret (v := some (.int 0)) rfl ?_
    exact ⟨kx_l0 (by grind), rfl⟩
  · refine kx_st 0 (pc' := 8) (L' := [some (.ref 1), some (.int (nI a)), some (.int (nI b))]) (st' := []) (h' := kv_wd g w) rfl ?_
    refine kx_st 2 (pc' := 10) (L' := [some (.ref 1), some (.int (nI a)), some (.int (nI b))]) (st' := [.int (nI b), .ref 1]) (h' := kv_wd g w) rfl ?_
    refine kx_call (z := 13) (as := [.ref 1, .int (nI b)]) (rest := []) (v := some (.int (kx_b (t.testBit b = true)))) (h1 := kv_wd g w) rfl (ev_isThereT (d := d) hX b hb) ?_
    refine kx_st 0 (pc' := 13) (L' := [some (.ref 1), some (.int (nI a)), some (.int (nI b))]) (st' := [.int (kx_b (t.testBit b = true))]) (h' := kv_wd g w) rfl ?_
    refine kx_be (t := 20) rfl rfl (fun (h13 : ¬ (t.testBit b = true)) => ?_) (fun (h13 : (t.testBit b = true)) => ?_)
    · refine kx_st 1 (pc' := 21) (L' := [some (.ref 1), some (.int (nI a)), some (.int (nI b))]) (st' := [.int 0]) (h' := kv_wd g w) rfl ?_
      refine kx_ret (v := some (.int 0)) rfl ?_
      exact ⟨kx_l0 (by grind), rfl⟩
    · refine kx_st 0 (pc' := 16) (L' := [some (.ref 1), some (.int (nI a)), some (.int (nI b))]) (st' := []) (h' := kv_wd g w) rfl ?_
      refine kx_st 2 (pc' := 21) (L' := [some (.ref 1), some (.int (nI a)), some (.int (nI b))]) (st' := [.int 1]) (h' := kv_wd g w) rfl ?_
      refine kx_ret (v := some (.int 1)) rfl ?_
      exact ⟨kx_l1 (by grind), rfl⟩
set_option maxRecDepth 100000 in
theorem ev_canWere {E : kv_V} {d : Nat} {g : kv_S} {w : kv_W} {F0 F1 : kx_FF} {s t m : Nat} {K : Nat → Nat → Int32} (hX : kx_X F0 F1 s t m K g) (q : kx_Q) (hq : kx_hq (g 45) (g 46) (g 44 2) q) (hqb : kx_qb q) (k : Nat) (hkm : k < m) (hK : kx_K s k (K k) (K k)) (a b : Nat) (ha : a < s) (hb : b < s) : ∃ f' : Nat → Int32, kv_ev E (d + 8) 63 [.ref 43, .ref 1, .ref (14 + k), .int (nI a), .int (nI b)] (kv_wd g w) (some (.int (kx_b (kx_cn F1 t q (K k) a b)))) (kv_wd (kv_uf g 11 f') w) := by
  have hk : k < 8 := by have := hX.1.2.2.2; omega
  have kk : ∀ c, c < 9 → g (14 + k) c = K k c := hX.2.2.2.2 k hkm
  obtain ⟨v, hf, he, rfl, f', rfl⟩ := kx_evP (E := E) (d := d + 7) (y := 63) (h := kv_wd g w) (as := [.ref 43, .ref 1, .ref (14 + k), .int (nI a), .int (nI b)]) (P := fun v h => v = (some (.int (kx_b (kx_cn F1 t q (K k) a b))) : Option Value) ∧ ∃ f' : Nat → Int32, h = kv_wd (kv_uf g 11 f') w) (by decide) (Nat.le_of_ble_eq_true rfl) (by
    refine kx_st 0 (pc' := 0) (L' := [some (.ref 43), some (.ref 1), some (.ref (14 + k)), some (.int (nI a)), some (.int (nI b))]) (st' := []) (h' := kv_wd g w) rfl ?_
    refine kx_st 1 (pc' := 1) (L' := [some (.ref 43), some (.ref 1), some (.ref (14 + k)), some (.int (nI a)), some (.int (nI b))]) (st' := [.ref (14 + k)]) (h' := kv_wd g w) rfl ?_
    refine kx_gf (i := 68) (k := 7) (v := .int (g (14 + k) 7)) rfl rfl (kv_kn_h hk).1 ((kv_kn_h hk).2 _ _) rfl ?_
    refine kx_bc (t := 33) rfl rfl (fun (h4 : g (14 + k) 7 = 0) => ?_) (fun (h4 : ¬ (g (14 + k) 7 = 0)) => ?_)
    · refine kx_st 1 (pc' := 34) (L' := [some (.ref 43), some (.ref 1), some (.ref (14 + k)), some (.int (nI a)), some (.int (nI b))]) (st' := [.int 0]) (h' := kv_wd g w) rfl ?_
      refine kx_ret (v := some (.int 0)) rfl ?_
      exact ⟨kx_l0 (fun z => kx_xtn (by rw [← kk 7 (by omega)]; exact h4) z.1), g 11, by rw [kv_uf_id]⟩
    · refine kx_st 0 (pc' := 7) (L' := [some (.ref 43), some (.ref 1), some (.ref (14 + k)), some (.int (nI a)), some (.int (nI b))]) (st' := []) (h' := kv_wd g w) rfl ?_
      refine kx_st 3 (pc' := 11) (L' := [some (.ref 43), some (.ref 1), some (.ref (14 + k)), some (.int (nI a)), some (.int (nI b))]) (st' := [.int (nI b), .int (nI a), .ref 1]) (h' := kv_wd g w) rfl ?_
      refine kx_call (z := 14) (as := [.ref 1, .int (nI a), .int (nI b)]) (rest := []) (v := some (.int (kx_b (t.testBit a = true ∧ t.testBit b = true)))) (h1 := kv_wd g w) rfl (ev_areThereT (d := d + 4) hX a b ha hb) ?_
      refine kx_st 0 (pc' := 14) (L' := [some (.ref 43), some (.ref 1), some (.ref (14 + k)), some (.int (nI a)), some (.int (nI b))]) (st' := [.int (kx_b (t.testBit a = true ∧ t.testBit b = true))]) (h' := kv_wd g w) rfl ?_
      refine kx_be (t := 33) rfl rfl (fun (h14 : ¬ (t.testBit a = true ∧ t.testBit b = true)) => ?_) (fun (h14 : (t.testBit a = true ∧ t.testBit b = true)) => ?_)
      · refine kx_st 1 (pc' := 34) (L' := [some (.ref 43), some (.ref 1), some (.ref (14 + k)), some (.int (nI a)), some (.int (nI b))]) (st' := [.int 0]) (h' := kv_wd g w) rfl ?_
        refine kx_ret (v := some (.int 0)) rfl ?_
        exact ⟨kx_l0 (fun z => h14 z.2.1), g 11, by rw [kv_uf_id]⟩
      · refine kx_st 0 (pc' := 17) (L' := [some (.ref 43), some (.ref 1), some (.ref (14 + k)), some (.int (nI a)), some (.int (nI b))]) (st' := []) (h' := kv_wd g w) rfl ?_
        refine kx_st 5 (pc' := 23) (L' := [some (.ref 43), some (.ref 1), some (.ref (14 + k)), some (.int (nI a)), some (.int (nI b))]) (st' := [.int (nI b), .int (nI a), .ref (14 + k), .ref 1, .ref 43]) (h' := kv_wd g w) rfl ?_
        obtain ⟨f23, e23⟩ := ev_loosens (E := E) (d := d) (w := w) hX q hq hqb k hkm hK a b (by have := hX.1.2.1; omega) (by have := hX.1.2.1; omega)
        refine kx_call (z := 62) (as := [.ref 43, .ref 1, .ref (14 + k), .int (nI a), .int (nI b)]) (rest := []) (v := some (.int (kx_b (kx_lsn F1 q (K k) a b)))) (h1 := kv_wd (kv_uf g 11 f23) w) rfl e23 ?_
        refine kx_st 0 (pc' := 26) (L' := [some (.ref 43), some (.ref 1), some (.ref (14 + k)), some (.int (nI a)), some (.int (nI b))]) (st' := [.int (kx_b (kx_lsn F1 q (K k) a b))]) (h' := kv_wd (kv_uf g 11 f23) w) rfl ?_
        refine kx_be (t := 33) rfl rfl (fun (h26 : ¬ (kx_lsn F1 q (K k) a b)) => ?_) (fun (h26 : (kx_lsn F1 q (K k) a b)) => ?_)
        · refine kx_st 1 (pc' := 34) (L' := [some (.ref 43), some (.ref 1), some (.ref (14 + k)), some (.int (nI a)), some (.int (nI b))]) (st' := [.int 0]) (h' := kv_wd (kv_uf g 11 f23) w) rfl ?_
          refine kx_ret (v := some (.int 0)) rfl ?_
          exact ⟨kx_l0 (fun z => h26 z.2.2), f23, rfl⟩
        · refine kx_st 0 (pc' := 29) (L' := [some (.ref 43), some (.ref 1), some (.ref (14 + k)), some (.int (nI a)), some (.int (nI b))]) (st' := []) (h' := kv_wd (kv_uf g 11 f23) w) rfl ?_
          refine kx_st 2 (pc' := 34) (L' := [some (.ref 43), some (.ref 1), some (.ref (14 + k)), some (.int (nI a)), some (.int (nI b))]) (st' := [.int 1]) (h' := kv_wd (kv_uf g 11 f23) w) rfl ?_
          refine kx_ret (v := some (.int 1)) rfl ?_
          exact ⟨kx_l1 ⟨kx_xt (kx_K_tied hK) (by rw [← kk 7 (by omega)]; exact h4), h14, h26⟩, f23, rfl⟩)
  exact ⟨f', he⟩
/-- the two who bound it, either way -/
abbrev kx_io (F1 : kx_FF) (t : Nat) (q : kx_Q) (K : Nat → Int32) (a b : Nat) : Prop := kx_cn F1 t q K a b ∨ kx_cn F1 t q K b a
set_option maxRecDepth 100000 in
theorem ev_isOwn {E : kv_V} {d : Nat} {g : kv_S} {w : kv_W} {F0 F1 : kx_FF} {s t m : Nat} {K : Nat → Nat → Int32} (hX : kx_X F0 F1 s t m K g) (q : kx_Q) (hq : kx_hq (g 45) (g 46) (g 44 2) q) (hqb : kx_qb q) (k : Nat) (hkm : k < m) (hK : kx_K s k (K k) (K k)) (a b : Nat) (ha : a < s) (hb : b < s) (ka : K k 2 = nI a) (kb : K k 3 = nI b) : ∃ f' : Nat → Int32, kv_ev E (d + 9) 64 [.ref 43, .ref 1, .ref (14 + k)] (kv_wd g w) (some (.int (kx_b (kx_io F1 t q (K k) a b)))) (kv_wd (kv_uf g 11 f') w) := by
  have hk : k < 8 := by have := hX.1.2.2.2; omega
  have kk : ∀ c, c < 9 → g (14 + k) c = K k c := hX.2.2.2.2 k hkm
  obtain ⟨v, hf, he, rfl, f', rfl⟩ := kx_evP (E := E) (d := d + 8) (y := 64) (h := kv_wd g w) (as := [.ref 43, .ref 1, .ref (14 + k)]) (P := fun v h => v = (some (.int (kx_b (kx_io F1 t q (K k) a b))) : Option Value) ∧ ∃ f' : Nat → Int32, h = kv_wd (kv_uf g 11 f') w) (by decide) (Nat.le_of_ble_eq_true rfl) (by
    refine kx_st 0 (pc' := 0) (L' := [some (.ref 43), some (.ref 1), some (.ref (14 + k))]) (st' := []) (h' := kv_wd g w) rfl ?_
    refine kx_st 4 (pc' := 4) (L' := [some (.ref 43), some (.ref 1), some (.ref (14 + k))]) (st' := [.ref (14 + k), .ref (14 + k), .ref 1, .ref 43]) (h' := kv_wd g w) rfl ?_
    refine kx_gf (i := 79) (k := 2) (v := .int (nI a)) rfl rfl (kv_kn_h hk).1 ((kv_kn_h hk).2 _ _) (congrArg (fun z => some (Value.int z)) ((kk 2 (by omega)).trans ka)) ?_
    refine kx_st 1 (pc' := 8) (L' := [some (.ref 43), some (.ref 1), some (.ref (14 + k))]) (st' := [.ref (14 + k), .int (nI a), .ref (14 + k), .ref 1, .ref 43]) (h' := kv_wd g w) rfl ?_
    refine kx_gf (i := 82) (k := 3) (v := .int (nI b)) rfl rfl (kv_kn_h hk).1 ((kv_kn_h hk).2 _ _) (congrArg (fun z => some (Value.int z)) ((kk 3 (by omega)).trans kb)) ?_
    obtain ⟨f11, e11⟩ := ev_canWere (E := E) (d := d) (w := w) hX q hq hqb k hkm hK a b ha hb
    refine kx_call (z := 63) (as := [.ref 43, .ref 1, .ref (14 + k), .int (nI a), .int (nI b)]) (rest := []) (v := some (.int (kx_b (kx_cn F1 t q (K k) a b)))) (h1 := kv_wd (kv_uf g 11 f11) w) rfl e11 ?_
    refine kx_st 0 (pc' := 14) (L' := [some (.ref 43), some (.ref 1), some (.ref (14 + k))]) (st' := [.int (kx_b (kx_cn F1 t q (K k) a b))]) (h' := kv_wd (kv_uf g 11 f11) w) rfl ?_
    refine kx_bn (t := 34) rfl rfl (fun (h14 : (kx_cn F1 t q (K k) a b)) => ?_) (fun (h14 : ¬ (kx_cn F1 t q (K k) a b)) => ?_)
    · refine kx_st 2 (pc' := 39) (L' := [some (.ref 43), some (.ref 1), some (.ref (14 + k))]) (st' := [.int 1]) (h' := kv_wd (kv_uf g 11 f11) w) rfl ?_
      refine kx_ret (v := some (.int 1)) rfl ?_
      exact ⟨kx_l1 (Or.inl h14), f11, rfl⟩
    · refine kx_st 0 (pc' := 17) (L' := [some (.ref 43), some (.ref 1), some (.ref (14 + k))]) (st' := []) (h' := kv_wd (kv_uf g 11 f11) w) rfl ?_
      refine kx_st 4 (pc' := 21) (L' := [some (.ref 43), some (.ref 1), some (.ref (14 + k))]) (st' := [.ref (14 + k), .ref (14 + k), .ref 1, .ref 43]) (h' := kv_wd (kv_uf g 11 f11) w) rfl ?_
      refine kx_gf (i := 82) (k := 3) (v := .int (nI b)) rfl rfl (kv_kn_h hk).1 ((kv_kn_h hk).2 _ _) (congrArg (fun z => some (Value.int z)) ((congrFun (kv_uf_ne (by omega)) 3).trans ((kk 3 (by omega)).trans kb))) ?_
      refine kx_st 1 (pc' := 25) (L' := [some (.ref 43), some (.ref 1), some (.ref (14 + k))]) (st' := [.ref (14 + k), .int (nI b), .ref (14 + k), .ref 1, .ref 43]) (h' := kv_wd (kv_uf g 11 f11) w) rfl ?_
      refine kx_gf (i := 79) (k := 2) (v := .int (nI a)) rfl rfl (kv_kn_h hk).1 ((kv_kn_h hk).2 _ _) (congrArg (fun z => some (Value.int z)) ((congrFun (kv_uf_ne (by omega)) 2).trans ((kk 2 (by omega)).trans ka))) ?_
      obtain ⟨f28, e28⟩ := ev_canWere (E := E) (d := d) (g := kv_uf g 11 f11) (w := w) (kx_X_cg (fun b hb => kv_uf_ne (by omega)) hX) q hq hqb k hkm hK b a hb ha
      refine kx_call (z := 63) (as := [.ref 43, .ref 1, .ref (14 + k), .int (nI b), .int (nI a)]) (rest := []) (v := some (.int (kx_b (kx_cn F1 t q (K k) b a)))) (h1 := kv_wd (kv_uf (kv_uf g 11 f11) 11 f28) w) rfl e28 ?_
      refine kx_st 0 (pc' := 31) (L' := [some (.ref 43), some (.ref 1), some (.ref (14 + k))]) (st' := [.int (kx_b (kx_cn F1 t q (K k) b a))]) (h' := kv_wd (kv_uf (kv_uf g 11 f11) 11 f28) w) rfl ?_
      refine kx_be (t := 38) rfl rfl (fun (h31 : ¬ (kx_cn F1 t q (K k) b a)) => ?_) (fun (h31 : (kx_cn F1 t q (K k) b a)) => ?_)
      · refine kx_st 1 (pc' := 39) (L' := [some (.ref 43), some (.ref 1), some (.ref (14 + k))]) (st' := [.int 0]) (h' := kv_wd (kv_uf (kv_uf g 11 f11) 11 f28) w) rfl ?_
        refine kx_ret (v := some (.int 0)) rfl ?_
        exact ⟨kx_l0 (fun z => z.elim h14 h31), f28, by rw [kv_uf_uf]⟩
      · refine kx_st 0 (pc' := 34) (L' := [some (.ref 43), some (.ref 1), some (.ref (14 + k))]) (st' := []) (h' := kv_wd (kv_uf (kv_uf g 11 f11) 11 f28) w) rfl ?_
        refine kx_st 2 (pc' := 39) (L' := [some (.ref 43), some (.ref 1), some (.ref (14 + k))]) (st' := [.int 1]) (h' := kv_wd (kv_uf (kv_uf g 11 f11) 11 f28) w) rfl ?_
        refine kx_ret (v := some (.int 1)) rfl ?_
        exact ⟨kx_l1 (Or.inr h31), f28, by rw [kv_uf_uf]⟩)
  exact ⟨f', he⟩
set_option maxRecDepth 100000 in
theorem ev_mmisses {E : kv_V} {d : Nat} {g : kv_S} {w : kv_W} {F0 F1 : kx_FF} {s t m : Nat} {K : Nat → Nat → Int32} (hM : kx_M F0 F1 s t m K (g 66)) (q : kx_Q) (hq : kx_hmq (g 66) q) (k : Nat) (hkm : k < m) (a b : Nat) (ha : a < 6) (hb : b < 6) : kv_ev E (d + 2) 172 [.ref 65, .int (nI k), .int (nI a), .int (nI b)] (kv_wd g w) (some (.int (kx_mq q (K k) a b))) (kv_wd g w) := by
  have hk : k < 8 := by have := hM.1.2.2.2; omega
  have kk : ∀ c, c < 9 → g 66 (26 + 9 * k + c) = K k c := hM.2.2.2.2 k hkm
  have e1 : kx_ms (g 66 (14 + a) + g 66 (8 + b)) (g 66 (26 + 9 * k + 4)) = kx_mq q (K k) a b := by rw [show g 66 (14 + a) = _ from (hq.1 a ha).2, show g 66 (8 + b) = _ from (hq.1 b hb).1, kk 4 (by omega)]; rfl
  refine kx_ev (d := d + 1) (by decide) (Nat.le_of_ble_eq_true rfl) ?_
  refine kx_st 0 (pc' := 0) (L' := [some (.ref 65), some (.int (nI k)), some (.int (nI a)), some (.int (nI b)), none]) (st' := []) (h' := kv_wd g w) rfl ?_
  refine kx_st 5 (pc' := 8) (L' := [some (.ref 65), some (.int (nI k)), some (.int (nI a)), some (.int (nI b)), none]) (st' := [.int (14 + (nI a)), .ref 66]) (h' := kv_wd g w) rfl ?_
  refine kx_ia (k := (14 + a)) rfl rfl (by decide) (kx_nadd _ _) (by omega) (by decide) ?_
  refine kx_st 5 (pc' := 17) (L' := [some (.ref 65), some (.int (nI k)), some (.int (nI a)), some (.int (nI b)), none]) (st' := [.int (8 + (nI b)), .ref 66, .int (g 66 (14 + a))]) (h' := kv_wd g w) rfl ?_
  refine kx_ia (k := (8 + b)) rfl rfl (by decide) (kx_nadd _ _) (by omega) (by decide) ?_
  refine kx_st 6 (pc' := 26) (L' := [some (.ref 65), some (.int (nI k)), some (.int (nI a)), some (.int (nI b)), some (.int ((g 66 (14 + a)) + (g 66 (8 + b))))]) (st' := [.int 4, .int (nI k), .ref 65, .int ((g 66 (14 + a)) + (g 66 (8 + b)))]) (h' := kv_wd g w) rfl ?_
  refine kx_call (z := 136) (as := [.ref 65, .int (nI k), .int 4]) (rest := [.int ((g 66 (14 + a)) + (g 66 (8 + b)))]) (v := some (.int (g 66 (26 + 9 * k + 4)))) (h1 := kv_wd g w) rfl (ev_its (d := d) k 4 (by omega)) ?_
  refine kx_st 0 (pc' := 29) (L' := [some (.ref 65), some (.int (nI k)), some (.int (nI a)), some (.int (nI b)), some (.int ((g 66 (14 + a)) + (g 66 (8 + b))))]) (st' := [.int (g 66 (26 + 9 * k + 4)), .int ((g 66 (14 + a)) + (g 66 (8 + b)))]) (h' := kv_wd g w) rfl ?_
  refine kx_bi (t := 44) rfl rfl (fun (h29 : g 66 (26 + 9 * k + 4) ≤ (g 66 (14 + a)) + (g 66 (8 + b))) => ?_) (fun (h29 : ¬ (g 66 (26 + 9 * k + 4) ≤ (g 66 (14 + a)) + (g 66 (8 + b)))) => ?_)
  · refine kx_st 4 (pc' := 49) (L' := [some (.ref 65), some (.int (nI k)), some (.int (nI a)), some (.int (nI b)), some (.int ((g 66 (14 + a)) + (g 66 (8 + b))))]) (st' := [.int 4, .int (nI k), .ref 65, .int ((g 66 (14 + a)) + (g 66 (8 + b)))]) (h' := kv_wd g w) rfl ?_
    refine kx_call (z := 136) (as := [.ref 65, .int (nI k), .int 4]) (rest := [.int ((g 66 (14 + a)) + (g 66 (8 + b)))]) (v := some (.int (g 66 (26 + 9 * k + 4)))) (h1 := kv_wd g w) rfl (ev_its (d := d) k 4 (by omega)) ?_
    refine kx_st 0 (pc' := 52) (L' := [some (.ref 65), some (.int (nI k)), some (.int (nI a)), some (.int (nI b)), some (.int ((g 66 (14 + a)) + (g 66 (8 + b))))]) (st' := [.int (g 66 (26 + 9 * k + 4)), .int ((g 66 (14 + a)) + (g 66 (8 + b)))]) (h' := kv_wd g w) rfl ?_
    refine kx_st 1 (pc' := 53) (L' := [some (.ref 65), some (.int (nI k)), some (.int (nI a)), some (.int (nI b)), some (.int ((g 66 (14 + a)) + (g 66 (8 + b))))]) (st' := [.int (((g 66 (14 + a)) + (g 66 (8 + b))) - (g 66 (26 + 9 * k + 4)))]) (h' := kv_wd g w) rfl ?_
    refine kx_ret (v := some (.int (((g 66 (14 + a)) + (g 66 (8 + b))) - (g 66 (26 + 9 * k + 4))))) rfl ?_
    have e2 : ((g 66 (14 + a)) + (g 66 (8 + b))) - (g 66 (26 + 9 * k + 4)) = kx_ms (g 66 (14 + a) + g 66 (8 + b)) (g 66 (26 + 9 * k + 4)) := by
      unfold kx_ms
      rw [if_neg (Int32.not_lt.mpr h29)]
    exact ⟨by rw [e2, e1], rfl⟩
  · refine kx_st 0 (pc' := 32) (L' := [some (.ref 65), some (.int (nI k)), some (.int (nI a)), some (.int (nI b)), some (.int ((g 66 (14 + a)) + (g 66 (8 + b))))]) (st' := []) (h' := kv_wd g w) rfl ?_
    refine kx_st 3 (pc' := 35) (L' := [some (.ref 65), some (.int (nI k)), some (.int (nI a)), some (.int (nI b)), some (.int ((g 66 (14 + a)) + (g 66 (8 + b))))]) (st' := [.int 4, .int (nI k), .ref 65]) (h' := kv_wd g w) rfl ?_
    refine kx_call (z := 136) (as := [.ref 65, .int (nI k), .int 4]) (rest := []) (v := some (.int (g 66 (26 + 9 * k + 4)))) (h1 := kv_wd g w) rfl (ev_its (d := d) k 4 (by omega)) ?_
    refine kx_st 0 (pc' := 38) (L' := [some (.ref 65), some (.int (nI k)), some (.int (nI a)), some (.int (nI b)), some (.int ((g 66 (14 + a)) + (g 66 (8 + b))))]) (st' := [.int (g 66 (26 + 9 * k + 4))]) (h' := kv_wd g w) rfl ?_
    refine kx_st 3 (pc' := 53) (L' := [some (.ref 65), some (.int (nI k)), some (.int (nI a)), some (.int (nI b)), some (.int ((g 66 (14 + a)) + (g 66 (8 + b))))]) (st' := [.int ((g 66 (26 + 9 * k + 4)) - ((g 66 (14 + a)) + (g 66 (8 + b))))]) (h' := kv_wd g w) rfl ?_
    refine kx_ret (v := some (.int ((g 66 (26 + 9 * k + 4)) - ((g 66 (14 + a)) + (g 66 (8 + b)))))) rfl ?_
    have e2 : (g 66 (26 + 9 * k + 4)) - ((g 66 (14 + a)) + (g 66 (8 + b))) = kx_ms (g 66 (14 + a) + g 66 (8 + b)) (g 66 (26 + 9 * k + 4)) := by
      unfold kx_ms
      rw [if_pos (Int32.not_le.mp h29)]
    exact ⟨by rw [e2, e1], rfl⟩
set_option maxRecDepth 100000 in
theorem ev_canTwo {E : kv_V} {d : Nat} {g : kv_S} {w : kv_W} {F0 F1 : kx_FF} {s t m : Nat} {K : Nat → Nat → Int32} (hM : kx_M F0 F1 s t m K (g 66)) (q : kx_Q) (hq : kx_hmq (g 66) q) (k : Nat) (hkm : k < m) (hK : kx_K s k (K k) (K k)) (a b : Nat) (ha : a < s) (hb : b < s) : ∃ f' : Nat → Int32, (∀ k, (k < 7 ∨ 14 < k) → f' k = g 65 k) ∧ kv_ev E (d + 101) 174 [.ref 65, .int (nI k), .int (nI a), .int (nI b)] (kv_wd g w) (some (.int (kx_b (kx_cn F1 t q (K k) a b)))) (kv_wd (kv_uf g 65 f') w) := by
  have hk : k < 8 := by have := hM.1.2.2.2; omega
  have kk : ∀ c, c < 9 → g 66 (26 + 9 * k + c) = K k c := hM.2.2.2.2 k hkm
  have ez := ev_mease (E := E) (d := d + 98) (w := w) k hk (g := g)
  rw [kk 0 (by omega), kk 1 (by omega), kk 8 (by omega), kk 5 (by omega), show g 66 0 = _ from hq.2] at ez
  obtain ⟨v, hf, he, rfl, f', hF, rfl⟩ := kx_evP (E := E) (d := d + 100) (y := 174) (h := kv_wd g w) (as := [.ref 65, .int (nI k), .int (nI a), .int (nI b)]) (P := fun v h => v = (some (.int (kx_b (kx_cn F1 t q (K k) a b))) : Option Value) ∧ ∃ f' : Nat → Int32, (∀ k, (k < 7 ∨ 14 < k) → f' k = g 65 k) ∧ h = kv_wd (kv_uf g 65 f') w) (by decide) (Nat.le_of_ble_eq_true rfl) (by
    refine kx_st 0 (pc' := 0) (L' := [some (.ref 65), some (.int (nI k)), some (.int (nI a)), some (.int (nI b)), none, none]) (st' := []) (h' := kv_wd g w) rfl ?_
    refine kx_st 4 (pc' := 4) (L' := [some (.ref 65), some (.int (nI k)), some (.int (nI a)), some (.int (nI b)), none, none]) (st' := [.int (nI b), .int (nI a), .int (nI k), .ref 65]) (h' := kv_wd g w) rfl ?_
    refine kx_call (z := 172) (as := [.ref 65, .int (nI k), .int (nI a), .int (nI b)]) (rest := []) (v := some (.int (kx_mq q (K k) a b))) (h1 := kv_wd g w) rfl (ev_mmisses (d := d + 98) hM q hq k hkm a b (by have := hM.1.2.1; omega) (by have := hM.1.2.1; omega)) ?_
    refine kx_st 0 (pc' := 7) (L' := [some (.ref 65), some (.int (nI k)), some (.int (nI a)), some (.int (nI b)), none, none]) (st' := [.int (kx_mq q (K k) a b)]) (h' := kv_wd g w) rfl ?_
    refine kx_st 3 (pc' := 11) (L' := [some (.ref 65), some (.int (nI k)), some (.int (nI a)), some (.int (nI b)), some (.int (kx_mq q (K k) a b)), none]) (st' := [.int (nI a), .ref 65]) (h' := kv_wd g w) rfl ?_
    refine kx_call (z := 141) (as := [.ref 65, .int (nI a)]) (rest := []) (v := some (.int (kx_b (t.testBit a = true)))) (h1 := kv_wd g w) rfl (ev_mThereT (d := d + 99) hM a ha) ?_
    refine kx_st 0 (pc' := 14) (L' := [some (.ref 65), some (.int (nI k)), some (.int (nI a)), some (.int (nI b)), some (.int (kx_mq q (K k) a b)), none]) (st' := [.int (kx_b (t.testBit a = true))]) (h' := kv_wd g w) rfl ?_
    refine kx_be (t := 45) rfl rfl (fun (h14 : ¬ (t.testBit a = true)) => ?_) (fun (h14 : (t.testBit a = true)) => ?_)
    · refine kx_st 1 (pc' := 46) (L' := [some (.ref 65), some (.int (nI k)), some (.int (nI a)), some (.int (nI b)), some (.int (kx_mq q (K k) a b)), none]) (st' := [.int 0]) (h' := kv_wd g w) rfl ?_
      refine kx_ret (v := some (.int 0)) rfl ?_
      exact ⟨kx_l0 (fun z => h14 z.2.1.1), g 65, fun _ _ => rfl, by rw [kv_uf_id]⟩
    · refine kx_st 0 (pc' := 17) (L' := [some (.ref 65), some (.int (nI k)), some (.int (nI a)), some (.int (nI b)), some (.int (kx_mq q (K k) a b)), none]) (st' := []) (h' := kv_wd g w) rfl ?_
      refine kx_st 2 (pc' := 19) (L' := [some (.ref 65), some (.int (nI k)), some (.int (nI a)), some (.int (nI b)), some (.int (kx_mq q (K k) a b)), none]) (st' := [.int (nI b), .ref 65]) (h' := kv_wd g w) rfl ?_
      refine kx_call (z := 141) (as := [.ref 65, .int (nI b)]) (rest := []) (v := some (.int (kx_b (t.testBit b = true)))) (h1 := kv_wd g w) rfl (ev_mThereT (d := d + 99) hM b hb) ?_
      refine kx_st 0 (pc' := 22) (L' := [some (.ref 65), some (.int (nI k)), some (.int (nI a)), some (.int (nI b)), some (.int (kx_mq q (K k) a b)), none]) (st' := [.int (kx_b (t.testBit b = true))]) (h' := kv_wd g w) rfl ?_
      refine kx_be (t := 45) rfl rfl (fun (h22 : ¬ (t.testBit b = true)) => ?_) (fun (h22 : (t.testBit b = true)) => ?_)
      · refine kx_st 1 (pc' := 46) (L' := [some (.ref 65), some (.int (nI k)), some (.int (nI a)), some (.int (nI b)), some (.int (kx_mq q (K k) a b)), none]) (st' := [.int 0]) (h' := kv_wd g w) rfl ?_
        refine kx_ret (v := some (.int 0)) rfl ?_
        exact ⟨kx_l0 (fun z => h22 z.2.1.2), g 65, fun _ _ => rfl, by rw [kv_uf_id]⟩
      · refine kx_st 0 (pc' := 25) (L' := [some (.ref 65), some (.int (nI k)), some (.int (nI a)), some (.int (nI b)), some (.int (kx_mq q (K k) a b)), none]) (st' := []) (h' := kv_wd g w) rfl ?_
        refine kx_st 3 (pc' := 29) (L' := [some (.ref 65), some (.int (nI k)), some (.int (nI a)), some (.int (nI b)), some (.int (kx_mq q (K k) a b)), none]) (st' := [.int 7, .int (nI k), .ref 65]) (h' := kv_wd g w) rfl ?_
        refine kx_call (z := 136) (as := [.ref 65, .int (nI k), .int 7]) (rest := []) (v := some (.int (g 66 (26 + 9 * k + 7)))) (h1 := kv_wd g w) rfl (ev_its (d := d + 99) k 7 (by omega)) ?_
        refine kx_st 0 (pc' := 32) (L' := [some (.ref 65), some (.int (nI k)), some (.int (nI a)), some (.int (nI b)), some (.int (kx_mq q (K k) a b)), none]) (st' := [.int (g 66 (26 + 9 * k + 7))]) (h' := kv_wd g w) rfl ?_
        refine kx_bc (t := 45) rfl rfl (fun (h32 : g 66 (26 + 9 * k + 7) = 0) => ?_) (fun (h32 : ¬ (g 66 (26 + 9 * k + 7) = 0)) => ?_)
        · refine kx_st 1 (pc' := 46) (L' := [some (.ref 65), some (.int (nI k)), some (.int (nI a)), some (.int (nI b)), some (.int (kx_mq q (K k) a b)), none]) (st' := [.int 0]) (h' := kv_wd g w) rfl ?_
          refine kx_ret (v := some (.int 0)) rfl ?_
          exact ⟨kx_l0 (fun z => kx_xtn (by rw [← kk 7 (by omega)]; exact h32) z.1), g 65, fun _ _ => rfl, by rw [kv_uf_id]⟩
        · refine kx_st 0 (pc' := 35) (L' := [some (.ref 65), some (.int (nI k)), some (.int (nI a)), some (.int (nI b)), some (.int (kx_mq q (K k) a b)), none]) (st' := []) (h' := kv_wd g w) rfl ?_
          refine kx_st 3 (pc' := 39) (L' := [some (.ref 65), some (.int (nI k)), some (.int (nI a)), some (.int (nI b)), some (.int (kx_mq q (K k) a b)), none]) (st' := [.int (nI k), .ref 65, .int (kx_mq q (K k) a b)]) (h' := kv_wd g w) rfl ?_
          refine kx_call (z := 171) (as := [.ref 65, .int (nI k)]) (rest := [.int (kx_mq q (K k) a b)]) (v := some (.int (kx_ez (K k 0) (K k 1) (K k 8) (K k 5) (nI q.2.2)))) (h1 := kv_wd g w) rfl ez ?_
          refine kx_st 0 (pc' := 42) (L' := [some (.ref 65), some (.int (nI k)), some (.int (nI a)), some (.int (nI b)), some (.int (kx_mq q (K k) a b)), none]) (st' := [.int (kx_ez (K k 0) (K k 1) (K k 8) (K k 5) (nI q.2.2)), .int (kx_mq q (K k) a b)]) (h' := kv_wd g w) rfl ?_
          refine kx_bi (t := 47) rfl rfl (fun (h42 : kx_mq q (K k) a b ≤ kx_ez (K k 0) (K k 1) (K k 8) (K k 5) (nI q.2.2)) => ?_) (fun (h42 : ¬ (kx_mq q (K k) a b ≤ kx_ez (K k 0) (K k 1) (K k 8) (K k 5) (nI q.2.2))) => ?_)
          · refine kx_st 3 (pc' := 50) (L' := [some (.ref 65), some (.int (nI k)), some (.int (nI a)), some (.int (nI b)), some (.int (kx_mq q (K k) a b)), none]) (st' := [.int 2, .int (nI k), .ref 65]) (h' := kv_wd g w) rfl ?_
            refine kx_call (z := 136) (as := [.ref 65, .int (nI k), .int 2]) (rest := []) (v := some (.int (g 66 (26 + 9 * k + 2)))) (h1 := kv_wd g w) rfl (ev_its (d := d + 99) k 2 (by omega)) ?_
            refine kx_st 0 (pc' := 53) (L' := [some (.ref 65), some (.int (nI k)), some (.int (nI a)), some (.int (nI b)), some (.int (kx_mq q (K k) a b)), none]) (st' := [.int (g 66 (26 + 9 * k + 2))]) (h' := kv_wd g w) rfl ?_
            refine kx_st 1 (pc' := 54) (L' := [some (.ref 65), some (.int (nI k)), some (.int (nI a)), some (.int (nI b)), some (.int (kx_mq q (K k) a b)), none]) (st' := [.int (nI a), .int (g 66 (26 + 9 * k + 2))]) (h' := kv_wd g w) rfl ?_
            refine kx_bi (t := 67) rfl rfl (fun (h54 : ¬ g 66 (26 + 9 * k + 2) = nI a) => ?_) (fun (h54 : ¬ (¬ g 66 (26 + 9 * k + 2) = nI a)) => ?_)
            · refine kx_st 3 (pc' := 70) (L' := [some (.ref 65), some (.int (nI k)), some (.int (nI a)), some (.int (nI b)), some (.int (kx_mq q (K k) a b)), none]) (st' := [.int 2, .int (nI k), .ref 65]) (h' := kv_wd g w) rfl ?_
              refine kx_call (z := 136) (as := [.ref 65, .int (nI k), .int 2]) (rest := []) (v := some (.int (g 66 (26 + 9 * k + 2)))) (h1 := kv_wd g w) rfl (ev_its (d := d + 99) k 2 (by omega)) ?_
              refine kx_st 0 (pc' := 73) (L' := [some (.ref 65), some (.int (nI k)), some (.int (nI a)), some (.int (nI b)), some (.int (kx_mq q (K k) a b)), none]) (st' := [.int (g 66 (26 + 9 * k + 2))]) (h' := kv_wd g w) rfl ?_
              refine kx_st 1 (pc' := 74) (L' := [some (.ref 65), some (.int (nI k)), some (.int (nI a)), some (.int (nI b)), some (.int (kx_mq q (K k) a b)), none]) (st' := [.int (nI b), .int (g 66 (26 + 9 * k + 2))]) (h' := kv_wd g w) rfl ?_
              refine kx_bi (t := 91) rfl rfl (fun (h74 : ¬ g 66 (26 + 9 * k + 2) = nI b) => ?_) (fun (h74 : ¬ (¬ g 66 (26 + 9 * k + 2) = nI b)) => ?_)
              · refine kx_st 3 (pc' := 96) (L' := [some (.ref 65), some (.int (nI k)), some (.int (nI a)), some (.int (nI b)), some (.int (kx_mq q (K k) a b)), some (.int 0)]) (st' := [.int 0]) (h' := kv_wd g w) rfl ?_
                refine kx_st 1 (pc' := 99) (L' := [some (.ref 65), some (.int (nI k)), some (.int (nI a)), some (.int (nI b)), some (.int (kx_mq q (K k) a b)), some (.int 0)]) (st' := []) (h' := kv_wd g w) rfl ?_
                refine kx_st 6 (pc' := 106) (L' := [some (.ref 65), some (.int (nI k)), some (.int (nI a)), some (.int (nI b)), some (.int (kx_mq q (K k) a b)), some (.int 0)]) (st' := [.int 1, .int (nI k), .ref 65, .int (kx_mq q (K k) a b), .int 1, .ref 65]) (h' := kv_wd g w) rfl ?_
                refine kx_call (z := 136) (as := [.ref 65, .int (nI k), .int 1]) (rest := [.int (kx_mq q (K k) a b), .int 1, .ref 65]) (v := some (.int (g 66 (26 + 9 * k + 1)))) (h1 := kv_wd g w) rfl (ev_its (d := d + 99) k 1 (by omega)) ?_
                refine kx_st 0 (pc' := 109) (L' := [some (.ref 65), some (.int (nI k)), some (.int (nI a)), some (.int (nI b)), some (.int (kx_mq q (K k) a b)), some (.int 0)]) (st' := [.int (g 66 (26 + 9 * k + 1)), .int (kx_mq q (K k) a b), .int 1, .ref 65]) (h' := kv_wd g w) rfl ?_
                refine kx_st 3 (pc' := 113) (L' := [some (.ref 65), some (.int (nI k)), some (.int (nI a)), some (.int (nI b)), some (.int (kx_mq q (K k) a b)), some (.int 0)]) (st' := [.int 8, .int (nI k), .ref 65, .int (g 66 (26 + 9 * k + 1)), .int (kx_mq q (K k) a b), .int 1, .ref 65]) (h' := kv_wd g w) rfl ?_
                refine kx_call (z := 136) (as := [.ref 65, .int (nI k), .int 8]) (rest := [.int (g 66 (26 + 9 * k + 1)), .int (kx_mq q (K k) a b), .int 1, .ref 65]) (v := some (.int (g 66 (26 + 9 * k + 8)))) (h1 := kv_wd g w) rfl (ev_its (d := d + 99) k 8 (by omega)) ?_
                refine kx_st 0 (pc' := 116) (L' := [some (.ref 65), some (.int (nI k)), some (.int (nI a)), some (.int (nI b)), some (.int (kx_mq q (K k) a b)), some (.int 0)]) (st' := [.int (g 66 (26 + 9 * k + 8)), .int (g 66 (26 + 9 * k + 1)), .int (kx_mq q (K k) a b), .int 1, .ref 65]) (h' := kv_wd g w) rfl ?_
                obtain ⟨f116, k116, e116⟩ := ev_lawOf1 (E := E) (d := d) (g := g) (w := w) hM (kx_mq q (K k) a b) (g 66 (26 + 9 * k + 1)) (g 66 (26 + 9 * k + 8))
                refine kx_call (z := 167) (as := [.ref 65, .int 1, .int (kx_mq q (K k) a b), .int (g 66 (26 + 9 * k + 1)), .int (g 66 (26 + 9 * k + 8))]) (rest := []) (v := some (.int (F1 (kx_mq q (K k) a b) (g 66 (26 + 9 * k + 1)) (g 66 (26 + 9 * k + 8))))) (h1 := kv_wd (kv_uf g 65 f116) w) rfl e116 ?_
                refine kx_st 0 (pc' := 119) (L' := [some (.ref 65), some (.int (nI k)), some (.int (nI a)), some (.int (nI b)), some (.int (kx_mq q (K k) a b)), some (.int 0)]) (st' := [.int (F1 (kx_mq q (K k) a b) (g 66 (26 + 9 * k + 1)) (g 66 (26 + 9 * k + 8)))]) (h' := kv_wd (kv_uf g 65 f116) w) rfl ?_
                refine kx_bc (t := 126) rfl rfl (fun (h119 : F1 (kx_mq q (K k) a b) (g 66 (26 + 9 * k + 1)) (g 66 (26 + 9 * k + 8)) = 0) => ?_) (fun (h119 : ¬ (F1 (kx_mq q (K k) a b) (g 66 (26 + 9 * k + 1)) (g 66 (26 + 9 * k + 8)) = 0)) => ?_)
                · refine kx_st 1 (pc' := 127) (L' := [some (.ref 65), some (.int (nI k)), some (.int (nI a)), some (.int (nI b)), some (.int (kx_mq q (K k) a b)), some (.int 0)]) (st' := [.int 0]) (h' := kv_wd (kv_uf g 65 f116) w) rfl ?_
                  refine kx_ret (v := some (.int 0)) rfl ?_
                  have no : ¬ kx_ow (K k) a b := by
                    rw [kk 2 (by omega)] at h54
                    rw [kk 2 (by omega)] at h74
                    grind
                  exact ⟨kx_l0 (fun z => z.2.2.2.elim no (fun y => y (by rw [← kk 1 (by omega), ← kk 8 (by omega)]; exact h119))), f116, k116, rfl⟩
                · refine kx_st 0 (pc' := 122) (L' := [some (.ref 65), some (.int (nI k)), some (.int (nI a)), some (.int (nI b)), some (.int (kx_mq q (K k) a b)), some (.int 0)]) (st' := []) (h' := kv_wd (kv_uf g 65 f116) w) rfl ?_
                  refine kx_st 2 (pc' := 127) (L' := [some (.ref 65), some (.int (nI k)), some (.int (nI a)), some (.int (nI b)), some (.int (kx_mq q (K k) a b)), some (.int 0)]) (st' := [.int 1]) (h' := kv_wd (kv_uf g 65 f116) w) rfl ?_
                  refine kx_ret (v := some (.int 1)) rfl ?_
                  exact ⟨kx_l1 ⟨kx_xt (kx_K_tied hK) (by rw [← kk 7 (by omega)]; exact h32), ⟨h14, h22⟩, h42, Or.inr (by rw [← kk 1 (by omega), ← kk 8 (by omega)]; exact h119)⟩, f116, k116, rfl⟩
              · refine kx_st 0 (pc' := 77) (L' := [some (.ref 65), some (.int (nI k)), some (.int (nI a)), some (.int (nI b)), some (.int (kx_mq q (K k) a b)), none]) (st' := []) (h' := kv_wd g w) rfl ?_
                refine kx_st 3 (pc' := 80) (L' := [some (.ref 65), some (.int (nI k)), some (.int (nI a)), some (.int (nI b)), some (.int (kx_mq q (K k) a b)), none]) (st' := [.int 3, .int (nI k), .ref 65]) (h' := kv_wd g w) rfl ?_
                refine kx_call (z := 136) (as := [.ref 65, .int (nI k), .int 3]) (rest := []) (v := some (.int (g 66 (26 + 9 * k + 3)))) (h1 := kv_wd g w) rfl (ev_its (d := d + 99) k 3 (by omega)) ?_
                refine kx_st 0 (pc' := 83) (L' := [some (.ref 65), some (.int (nI k)), some (.int (nI a)), some (.int (nI b)), some (.int (kx_mq q (K k) a b)), none]) (st' := [.int (g 66 (26 + 9 * k + 3))]) (h' := kv_wd g w) rfl ?_
                refine kx_st 1 (pc' := 84) (L' := [some (.ref 65), some (.int (nI k)), some (.int (nI a)), some (.int (nI b)), some (.int (kx_mq q (K k) a b)), none]) (st' := [.int (nI a), .int (g 66 (26 + 9 * k + 3))]) (h' := kv_wd g w) rfl ?_
                refine kx_bi (t := 91) rfl rfl (fun (h84 : ¬ g 66 (26 + 9 * k + 3) = nI a) => ?_) (fun (h84 : ¬ (¬ g 66 (26 + 9 * k + 3) = nI a)) => ?_)
                · refine kx_st 3 (pc' := 96) (L' := [some (.ref 65), some (.int (nI k)), some (.int (nI a)), some (.int (nI b)), some (.int (kx_mq q (K k) a b)), some (.int 0)]) (st' := [.int 0]) (h' := kv_wd g w) rfl ?_
                  refine kx_st 1 (pc' := 99) (L' := [some (.ref 65), some (.int (nI k)), some (.int (nI a)), some (.int (nI b)), some (.int (kx_mq q (K k) a b)), some (.int 0)]) (st' := []) (h' := kv_wd g w) rfl ?_
                  refine kx_st 6 (pc' := 106) (L' := [some (.ref 65), some (.int (nI k)), some (.int (nI a)), some (.int (nI b)), some (.int (kx_mq q (K k) a b)), some (.int 0)]) (st' := [.int 1, .int (nI k), .ref 65, .int (kx_mq q (K k) a b), .int 1, .ref 65]) (h' := kv_wd g w) rfl ?_
                  refine kx_call (z := 136) (as := [.ref 65, .int (nI k), .int 1]) (rest := [.int (kx_mq q (K k) a b), .int 1, .ref 65]) (v := some (.int (g 66 (26 + 9 * k + 1)))) (h1 := kv_wd g w) rfl (ev_its (d := d + 99) k 1 (by omega)) ?_
                  refine kx_st 0 (pc' := 109) (L' := [some (.ref 65), some (.int (nI k)), some (.int (nI a)), some (.int (nI b)), some (.int (kx_mq q (K k) a b)), some (.int 0)]) (st' := [.int (g 66 (26 + 9 * k + 1)), .int (kx_mq q (K k) a b), .int 1, .ref 65]) (h' := kv_wd g w) rfl ?_
                  refine kx_st 3 (pc' := 113) (L' := [some (.ref 65), some (.int (nI k)), some (.int (nI a)), some (.int (nI b)), some (.int (kx_mq q (K k) a b)), some (.int 0)]) (st' := [.int 8, .int (nI k), .ref 65, .int (g 66 (26 + 9 * k + 1)), .int (kx_mq q (K k) a b), .int 1, .ref 65]) (h' := kv_wd g w) rfl ?_
                  refine kx_call (z := 136) (as := [.ref 65, .int (nI k), .int 8]) (rest := [.int (g 66 (26 + 9 * k + 1)), .int (kx_mq q (K k) a b), .int 1, .ref 65]) (v := some (.int (g 66 (26 + 9 * k + 8)))) (h1 := kv_wd g w) rfl (ev_its (d := d + 99) k 8 (by omega)) ?_
                  refine kx_st 0 (pc' := 116) (L' := [some (.ref 65), some (.int (nI k)), some (.int (nI a)), some (.int (nI b)), some (.int (kx_mq q (K k) a b)), some (.int 0)]) (st' := [.int (g 66 (26 + 9 * k + 8)), .int (g 66 (26 + 9 * k + 1)), .int (kx_mq q (K k) a b), .int 1, .ref 65]) (h' := kv_wd g w) rfl ?_
                  obtain ⟨f116, k116, e116⟩ := ev_lawOf1 (E := E) (d := d) (g := g) (w := w) hM (kx_mq q (K k) a b) (g 66 (26 + 9 * k + 1)) (g 66 (26 + 9 * k + 8))
                  refine kx_call (z := 167) (as := [.ref 65, .int 1, .int (kx_mq q (K k) a b), .int (g 66 (26 + 9 * k + 1)), .int (g 66 (26 + 9 * k + 8))]) (rest := []) (v := some (.int (F1 (kx_mq q (K k) a b) (g 66 (26 + 9 * k + 1)) (g 66 (26 + 9 * k + 8))))) (h1 := kv_wd (kv_uf g 65 f116) w) rfl e116 ?_
                  refine kx_st 0 (pc' := 119) (L' := [some (.ref 65), some (.int (nI k)), some (.int (nI a)), some (.int (nI b)), some (.int (kx_mq q (K k) a b)), some (.int 0)]) (st' := [.int (F1 (kx_mq q (K k) a b) (g 66 (26 + 9 * k + 1)) (g 66 (26 + 9 * k + 8)))]) (h' := kv_wd (kv_uf g 65 f116) w) rfl ?_
                  refine kx_bc (t := 126) rfl rfl (fun (h119 : F1 (kx_mq q (K k) a b) (g 66 (26 + 9 * k + 1)) (g 66 (26 + 9 * k + 8)) = 0) => ?_) (fun (h119 : ¬ (F1 (kx_mq q (K k) a b) (g 66 (26 + 9 * k + 1)) (g 66 (26 + 9 * k + 8)) = 0)) => ?_)
                  · refine kx_st 1 (pc' := 127) (L' := [some (.ref 65), some (.int (nI k)), some (.int (nI a)), some (.int (nI b)), some (.int (kx_mq q (K k) a b)), some (.int 0)]) (st' := [.int 0]) (h' := kv_wd (kv_uf g 65 f116) w) rfl ?_
                    refine kx_ret (v := some (.int 0)) rfl ?_
                    have no : ¬ kx_ow (K k) a b := by
                      rw [kk 2 (by omega)] at h54
                      rw [kk 2 (by omega)] at h74
                      rw [kk 3 (by omega)] at h84
                      grind
                    exact ⟨kx_l0 (fun z => z.2.2.2.elim no (fun y => y (by rw [← kk 1 (by omega), ← kk 8 (by omega)]; exact h119))), f116, k116, rfl⟩
                  · refine kx_st 0 (pc' := 122) (L' := [some (.ref 65), some (.int (nI k)), some (.int (nI a)), some (.int (nI b)), some (.int (kx_mq q (K k) a b)), some (.int 0)]) (st' := []) (h' := kv_wd (kv_uf g 65 f116) w) rfl ?_
                    refine kx_st 2 (pc' := 127) (L' := [some (.ref 65), some (.int (nI k)), some (.int (nI a)), some (.int (nI b)), some (.int (kx_mq q (K k) a b)), some (.int 0)]) (st' := [.int 1]) (h' := kv_wd (kv_uf g 65 f116) w) rfl ?_
                    refine kx_ret (v := some (.int 1)) rfl ?_
                    exact ⟨kx_l1 ⟨kx_xt (kx_K_tied hK) (by rw [← kk 7 (by omega)]; exact h32), ⟨h14, h22⟩, h42, Or.inr (by rw [← kk 1 (by omega), ← kk 8 (by omega)]; exact h119)⟩, f116, k116, rfl⟩
                · refine kx_st 0 (pc' := 87) (L' := [some (.ref 65), some (.int (nI k)), some (.int (nI a)), some (.int (nI b)), some (.int (kx_mq q (K k) a b)), none]) (st' := []) (h' := kv_wd g w) rfl ?_
                  refine kx_st 4 (pc' := 96) (L' := [some (.ref 65), some (.int (nI k)), some (.int (nI a)), some (.int (nI b)), some (.int (kx_mq q (K k) a b)), some (.int 1)]) (st' := [.int 1]) (h' := kv_wd g w) rfl ?_
                  refine kx_st 1 (pc' := 122) (L' := [some (.ref 65), some (.int (nI k)), some (.int (nI a)), some (.int (nI b)), some (.int (kx_mq q (K k) a b)), some (.int 1)]) (st' := []) (h' := kv_wd g w) rfl ?_
                  refine kx_st 2 (pc' := 127) (L' := [some (.ref 65), some (.int (nI k)), some (.int (nI a)), some (.int (nI b)), some (.int (kx_mq q (K k) a b)), some (.int 1)]) (st' := [.int 1]) (h' := kv_wd g w) rfl ?_
                  refine kx_ret (v := some (.int 1)) rfl ?_
                  have ow : kx_ow (K k) a b := by
                    rw [kk 2 (by omega)] at h54
                    rw [kk 2 (by omega)] at h74
                    rw [kk 3 (by omega)] at h84
                    grind
                  exact ⟨kx_l1 ⟨kx_xt (kx_K_tied hK) (by rw [← kk 7 (by omega)]; exact h32), ⟨h14, h22⟩, h42, Or.inl ow⟩, g 65, fun _ _ => rfl, by rw [kv_uf_id]⟩
            · refine kx_st 0 (pc' := 57) (L' := [some (.ref 65), some (.int (nI k)), some (.int (nI a)), some (.int (nI b)), some (.int (kx_mq q (K k) a b)), none]) (st' := []) (h' := kv_wd g w) rfl ?_
              refine kx_st 3 (pc' := 60) (L' := [some (.ref 65), some (.int (nI k)), some (.int (nI a)), some (.int (nI b)), some (.int (kx_mq q (K k) a b)), none]) (st' := [.int 3, .int (nI k), .ref 65]) (h' := kv_wd g w) rfl ?_
              refine kx_call (z := 136) (as := [.ref 65, .int (nI k), .int 3]) (rest := []) (v := some (.int (g 66 (26 + 9 * k + 3)))) (h1 := kv_wd g w) rfl (ev_its (d := d + 99) k 3 (by omega)) ?_
              refine kx_st 0 (pc' := 63) (L' := [some (.ref 65), some (.int (nI k)), some (.int (nI a)), some (.int (nI b)), some (.int (kx_mq q (K k) a b)), none]) (st' := [.int (g 66 (26 + 9 * k + 3))]) (h' := kv_wd g w) rfl ?_
              refine kx_st 1 (pc' := 64) (L' := [some (.ref 65), some (.int (nI k)), some (.int (nI a)), some (.int (nI b)), some (.int (kx_mq q (K k) a b)), none]) (st' := [.int (nI b), .int (g 66 (26 + 9 * k + 3))]) (h' := kv_wd g w) rfl ?_
              refine kx_bi (t := 87) rfl rfl (fun (h64 : g 66 (26 + 9 * k + 3) = nI b) => ?_) (fun (h64 : ¬ (g 66 (26 + 9 * k + 3) = nI b)) => ?_)
              · refine kx_st 4 (pc' := 96) (L' := [some (.ref 65), some (.int (nI k)), some (.int (nI a)), some (.int (nI b)), some (.int (kx_mq q (K k) a b)), some (.int 1)]) (st' := [.int 1]) (h' := kv_wd g w) rfl ?_
                refine kx_st 1 (pc' := 122) (L' := [some (.ref 65), some (.int (nI k)), some (.int (nI a)), some (.int (nI b)), some (.int (kx_mq q (K k) a b)), some (.int 1)]) (st' := []) (h' := kv_wd g w) rfl ?_
                refine kx_st 2 (pc' := 127) (L' := [some (.ref 65), some (.int (nI k)), some (.int (nI a)), some (.int (nI b)), some (.int (kx_mq q (K k) a b)), some (.int 1)]) (st' := [.int 1]) (h' := kv_wd g w) rfl ?_
                refine kx_ret (v := some (.int 1)) rfl ?_
                have ow : kx_ow (K k) a b := by
                  rw [kk 2 (by omega)] at h54
                  rw [kk 3 (by omega)] at h64
                  grind
                exact ⟨kx_l1 ⟨kx_xt (kx_K_tied hK) (by rw [← kk 7 (by omega)]; exact h32), ⟨h14, h22⟩, h42, Or.inl ow⟩, g 65, fun _ _ => rfl, by rw [kv_uf_id]⟩
              · refine kx_st 0 (pc' := 67) (L' := [some (.ref 65), some (.int (nI k)), some (.int (nI a)), some (.int (nI b)), some (.int (kx_mq q (K k) a b)), none]) (st' := []) (h' := kv_wd g w) rfl ?_
                refine kx_st 3 (pc' := 70) (L' := [some (.ref 65), some (.int (nI k)), some (.int (nI a)), some (.int (nI b)), some (.int (kx_mq q (K k) a b)), none]) (st' := [.int 2, .int (nI k), .ref 65]) (h' := kv_wd g w) rfl ?_
                refine kx_call (z := 136) (as := [.ref 65, .int (nI k), .int 2]) (rest := []) (v := some (.int (g 66 (26 + 9 * k + 2)))) (h1 := kv_wd g w) rfl (ev_its (d := d + 99) k 2 (by omega)) ?_
                refine kx_st 0 (pc' := 73) (L' := [some (.ref 65), some (.int (nI k)), some (.int (nI a)), some (.int (nI b)), some (.int (kx_mq q (K k) a b)), none]) (st' := [.int (g 66 (26 + 9 * k + 2))]) (h' := kv_wd g w) rfl ?_
                refine kx_st 1 (pc' := 74) (L' := [some (.ref 65), some (.int (nI k)), some (.int (nI a)), some (.int (nI b)), some (.int (kx_mq q (K k) a b)), none]) (st' := [.int (nI b), .int (g 66 (26 + 9 * k + 2))]) (h' := kv_wd g w) rfl ?_
                refine kx_bi (t := 91) rfl rfl (fun (h74 : ¬ g 66 (26 + 9 * k + 2) = nI b) => ?_) (fun (h74 : ¬ (¬ g 66 (26 + 9 * k + 2) = nI b)) => ?_)
                · refine kx_st 3 (pc' := 96) (L' := [some (.ref 65), some (.int (nI k)), some (.int (nI a)), some (.int (nI b)), some (.int (kx_mq q (K k) a b)), some (.int 0)]) (st' := [.int 0]) (h' := kv_wd g w) rfl ?_
                  refine kx_st 1 (pc' := 99) (L' := [some (.ref 65), some (.int (nI k)), some (.int (nI a)), some (.int (nI b)), some (.int (kx_mq q (K k) a b)), some (.int 0)]) (st' := []) (h' := kv_wd g w) rfl ?_
                  refine kx_st 6 (pc' := 106) (L' := [some (.ref 65), some (.int (nI k)), some (.int (nI a)), some (.int (nI b)), some (.int (kx_mq q (K k) a b)), some (.int 0)]) (st' := [.int 1, .int (nI k), .ref 65, .int (kx_mq q (K k) a b), .int 1, .ref 65]) (h' := kv_wd g w) rfl ?_
                  refine kx_call (z := 136) (as := [.ref 65, .int (nI k), .int 1]) (rest := [.int (kx_mq q (K k) a b), .int 1, .ref 65]) (v := some (.int (g 66 (26 + 9 * k + 1)))) (h1 := kv_wd g w) rfl (ev_its (d := d + 99) k 1 (by omega)) ?_
                  refine kx_st 0 (pc' := 109) (L' := [some (.ref 65), some (.int (nI k)), some (.int (nI a)), some (.int (nI b)), some (.int (kx_mq q (K k) a b)), some (.int 0)]) (st' := [.int (g 66 (26 + 9 * k + 1)), .int (kx_mq q (K k) a b), .int 1, .ref 65]) (h' := kv_wd g w) rfl ?_
                  refine kx_st 3 (pc' := 113) (L' := [some (.ref 65), some (.int (nI k)), some (.int (nI a)), some (.int (nI b)), some (.int (kx_mq q (K k) a b)), some (.int 0)]) (st' := [.int 8, .int (nI k), .ref 65, .int (g 66 (26 + 9 * k + 1)), .int (kx_mq q (K k) a b), .int 1, .ref 65]) (h' := kv_wd g w) rfl ?_
                  refine kx_call (z := 136) (as := [.ref 65, .int (nI k), .int 8]) (rest := [.int (g 66 (26 + 9 * k + 1)), .int (kx_mq q (K k) a b), .int 1, .ref 65]) (v := some (.int (g 66 (26 + 9 * k + 8)))) (h1 := kv_wd g w) rfl (ev_its (d := d + 99) k 8 (by omega)) ?_
                  refine kx_st 0 (pc' := 116) (L' := [some (.ref 65), some (.int (nI k)), some (.int (nI a)), some (.int (nI b)), some (.int (kx_mq q (K k) a b)), some (.int 0)]) (st' := [.int (g 66 (26 + 9 * k + 8)), .int (g 66 (26 + 9 * k + 1)), .int (kx_mq q (K k) a b), .int 1, .ref 65]) (h' := kv_wd g w) rfl ?_
                  obtain ⟨f116, k116, e116⟩ := ev_lawOf1 (E := E) (d := d) (g := g) (w := w) hM (kx_mq q (K k) a b) (g 66 (26 + 9 * k + 1)) (g 66 (26 + 9 * k + 8))
                  refine kx_call (z := 167) (as := [.ref 65, .int 1, .int (kx_mq q (K k) a b), .int (g 66 (26 + 9 * k + 1)), .int (g 66 (26 + 9 * k + 8))]) (rest := []) (v := some (.int (F1 (kx_mq q (K k) a b) (g 66 (26 + 9 * k + 1)) (g 66 (26 + 9 * k + 8))))) (h1 := kv_wd (kv_uf g 65 f116) w) rfl e116 ?_
                  refine kx_st 0 (pc' := 119) (L' := [some (.ref 65), some (.int (nI k)), some (.int (nI a)), some (.int (nI b)), some (.int (kx_mq q (K k) a b)), some (.int 0)]) (st' := [.int (F1 (kx_mq q (K k) a b) (g 66 (26 + 9 * k + 1)) (g 66 (26 + 9 * k + 8)))]) (h' := kv_wd (kv_uf g 65 f116) w) rfl ?_
                  refine kx_bc (t := 126) rfl rfl (fun (h119 : F1 (kx_mq q (K k) a b) (g 66 (26 + 9 * k + 1)) (g 66 (26 + 9 * k + 8)) = 0) => ?_) (fun (h119 : ¬ (F1 (kx_mq q (K k) a b) (g 66 (26 + 9 * k + 1)) (g 66 (26 + 9 * k + 8)) = 0)) => ?_)
                  · refine kx_st 1 (pc' := 127) (L' := [some (.ref 65), some (.int (nI k)), some (.int (nI a)), some (.int (nI b)), some (.int (kx_mq q (K k) a b)), some (.int 0)]) (st' := [.int 0]) (h' := kv_wd (kv_uf g 65 f116) w) rfl ?_
                    refine kx_ret (v := some (.int 0)) rfl ?_
                    have no : ¬ kx_ow (K k) a b := by
                      rw [kk 2 (by omega)] at h54
                      rw [kk 3 (by omega)] at h64
                      rw [kk 2 (by omega)] at h74
                      grind
                    exact ⟨kx_l0 (fun z => z.2.2.2.elim no (fun y => y (by rw [← kk 1 (by omega), ← kk 8 (by omega)]; exact h119))), f116, k116, rfl⟩
                  · refine kx_st 0 (pc' := 122) (L' := [some (.ref 65), some (.int (nI k)), some (.int (nI a)), some (.int (nI b)), some (.int (kx_mq q (K k) a b)), some (.int 0)]) (st' := []) (h' := kv_wd (kv_uf g 65 f116) w) rfl ?_
                    refine kx_st 2 (pc' := 127) (L' := [some (.ref 65), some (.int (nI k)), some (.int (nI a)), some (.int (nI b)), some (.int (kx_mq q (K k) a b)), some (.int 0)]) (st' := [.int 1]) (h' := kv_wd (kv_uf g 65 f116) w) rfl ?_
                    refine kx_ret (v := some (.int 1)) rfl ?_
                    exact ⟨kx_l1 ⟨kx_xt (kx_K_tied hK) (by rw [← kk 7 (by omega)]; exact h32), ⟨h14, h22⟩, h42, Or.inr (by rw [← kk 1 (by omega), ← kk 8 (by omega)]; exact h119)⟩, f116, k116, rfl⟩
                · refine kx_st 0 (pc' := 77) (L' := [some (.ref 65), some (.int (nI k)), some (.int (nI a)), some (.int (nI b)), some (.int (kx_mq q (K k) a b)), none]) (st' := []) (h' := kv_wd g w) rfl ?_
                  refine kx_st 3 (pc' := 80) (L' := [some (.ref 65), some (.int (nI k)), some (.int (nI a)), some (.int (nI b)), some (.int (kx_mq q (K k) a b)), none]) (st' := [.int 3, .int (nI k), .ref 65]) (h' := kv_wd g w) rfl ?_
                  refine kx_call (z := 136) (as := [.ref 65, .int (nI k), .int 3]) (rest := []) (v := some (.int (g 66 (26 + 9 * k + 3)))) (h1 := kv_wd g w) rfl (ev_its (d := d + 99) k 3 (by omega)) ?_
                  refine kx_st 0 (pc' := 83) (L' := [some (.ref 65), some (.int (nI k)), some (.int (nI a)), some (.int (nI b)), some (.int (kx_mq q (K k) a b)), none]) (st' := [.int (g 66 (26 + 9 * k + 3))]) (h' := kv_wd g w) rfl ?_
                  refine kx_st 1 (pc' := 84) (L' := [some (.ref 65), some (.int (nI k)), some (.int (nI a)), some (.int (nI b)), some (.int (kx_mq q (K k) a b)), none]) (st' := [.int (nI a), .int (g 66 (26 + 9 * k + 3))]) (h' := kv_wd g w) rfl ?_
                  refine kx_bi (t := 91) rfl rfl (fun (h84 : ¬ g 66 (26 + 9 * k + 3) = nI a) => ?_) (fun (h84 : ¬ (¬ g 66 (26 + 9 * k + 3) = nI a)) => ?_)
                  · refine kx_st 3 (pc' := 96) (L' := [some (.ref 65), some (.int (nI k)), some (.int (nI a)), some (.int (nI b)), some (.int (kx_mq q (K k) a b)), some (.int 0)]) (st' := [.int 0]) (h' := kv_wd g w) rfl ?_
                    refine kx_st 1 (pc' := 99) (L' := [some (.ref 65), some (.int (nI k)), some (.int (nI a)), some (.int (nI b)), some (.int (kx_mq q (K k) a b)), some (.int 0)]) (st' := []) (h' := kv_wd g w) rfl ?_
                    refine kx_st 6 (pc' := 106) (L' := [some (.ref 65), some (.int (nI k)), some (.int (nI a)), some (.int (nI b)), some (.int (kx_mq q (K k) a b)), some (.int 0)]) (st' := [.int 1, .int (nI k), .ref 65, .int (kx_mq q (K k) a b), .int 1, .ref 65]) (h' := kv_wd g w) rfl ?_
                    refine kx_call (z := 136) (as := [.ref 65, .int (nI k), .int 1]) (rest := [.int (kx_mq q (K k) a b), .int 1, .ref 65]) (v := some (.int (g 66 (26 + 9 * k + 1)))) (h1 := kv_wd g w) rfl (ev_its (d := d + 99) k 1 (by omega)) ?_
                    refine kx_st 0 (pc' := 109) (L' := [some (.ref 65), some (.int (nI k)), some (.int (nI a)), some (.int (nI b)), some (.int (kx_mq q (K k) a b)), some (.int 0)]) (st' := [.int (g 66 (26 + 9 * k + 1)), .int (kx_mq q (K k) a b), .int 1, .ref 65]) (h' := kv_wd g w) rfl ?_
                    refine kx_st 3 (pc' := 113) (L' := [some (.ref 65), some (.int (nI k)), some (.int (nI a)), some (.int (nI b)), some (.int (kx_mq q (K k) a b)), some (.int 0)]) (st' := [.int 8, .int (nI k), .ref 65, .int (g 66 (26 + 9 * k + 1)), .int (kx_mq q (K k) a b), .int 1, .ref 65]) (h' := kv_wd g w) rfl ?_
                    refine kx_call (z := 136) (as := [.ref 65, .int (nI k), .int 8]) (rest := [.int (g 66 (26 + 9 * k + 1)), .int (kx_mq q (K k) a b), .int 1, .ref 65]) (v := some (.int (g 66 (26 + 9 * k + 8)))) (h1 := kv_wd g w) rfl (ev_its (d := d + 99) k 8 (by omega)) ?_
                    refine kx_st 0 (pc' := 116) (L' := [some (.ref 65), some (.int (nI k)), some (.int (nI a)), some (.int (nI b)), some (.int (kx_mq q (K k) a b)), some (.int 0)]) (st' := [.int (g 66 (26 + 9 * k + 8)), .int (g 66 (26 + 9 * k + 1)), .int (kx_mq q (K k) a b), .int 1, .ref 65]) (h' := kv_wd g w) rfl ?_
                    obtain ⟨f116, k116, e116⟩ := ev_lawOf1 (E := E) (d := d) (g := g) (w := w) hM (kx_mq q (K k) a b) (g 66 (26 + 9 * k + 1)) (g 66 (26 + 9 * k + 8))
                    refine kx_call (z := 167) (as := [.ref 65, .int 1, .int (kx_mq q (K k) a b), .int (g 66 (26 + 9 * k + 1)), .int (g 66 (26 + 9 * k + 8))]) (rest := []) (v := some (.int (F1 (kx_mq q (K k) a b) (g 66 (26 + 9 * k + 1)) (g 66 (26 + 9 * k + 8))))) (h1 := kv_wd (kv_uf g 65 f116) w) rfl e116 ?_
                    refine kx_st 0 (pc' := 119) (L' := [some (.ref 65), some (.int (nI k)), some (.int (nI a)), some (.int (nI b)), some (.int (kx_mq q (K k) a b)), some (.int 0)]) (st' := [.int (F1 (kx_mq q (K k) a b) (g 66 (26 + 9 * k + 1)) (g 66 (26 + 9 * k + 8)))]) (h' := kv_wd (kv_uf g 65 f116) w) rfl ?_
                    refine kx_bc (t := 126) rfl rfl (fun (h119 : F1 (kx_mq q (K k) a b) (g 66 (26 + 9 * k + 1)) (g 66 (26 + 9 * k + 8)) = 0) => ?_) (fun (h119 : ¬ (F1 (kx_mq q (K k) a b) (g 66 (26 + 9 * k + 1)) (g 66 (26 + 9 * k + 8)) = 0)) => ?_)
                    · refine kx_st 1 (pc' := 127) (L' := [some (.ref 65), some (.int (nI k)), some (.int (nI a)), some (.int (nI b)), some (.int (kx_mq q (K k) a b)), some (.int 0)]) (st' := [.int 0]) (h' := kv_wd (kv_uf g 65 f116) w) rfl ?_
                      refine kx_ret (v := some (.int 0)) rfl ?_
                      have no : ¬ kx_ow (K k) a b := by
                        rw [kk 2 (by omega)] at h54
                        rw [kk 3 (by omega)] at h64
                        rw [kk 2 (by omega)] at h74
                        rw [kk 3 (by omega)] at h84
                        grind
                      exact ⟨kx_l0 (fun z => z.2.2.2.elim no (fun y => y (by rw [← kk 1 (by omega), ← kk 8 (by omega)]; exact h119))), f116, k116, rfl⟩
                    · refine kx_st 0 (pc' := 122) (L' := [some (.ref 65), some (.int (nI k)), some (.int (nI a)), some (.int (nI b)), some (.int (kx_mq q (K k) a b)), some (.int 0)]) (st' := []) (h' := kv_wd (kv_uf g 65 f116) w) rfl ?_
                      refine kx_st 2 (pc' := 127) (L' := [some (.ref 65), some (.int (nI k)), some (.int (nI a)), some (.int (nI b)), some (.int (kx_mq q (K k) a b)), some (.int 0)]) (st' := [.int 1]) (h' := kv_wd (kv_uf g 65 f116) w) rfl ?_
                      refine kx_ret (v := some (.int 1)) rfl ?_
                      exact ⟨kx_l1 ⟨kx_xt (kx_K_tied hK) (by rw [← kk 7 (by omega)]; exact h32), ⟨h14, h22⟩, h42, Or.inr (by rw [← kk 1 (by omega), ← kk 8 (by omega)]; exact h119)⟩, f116, k116, rfl⟩
                  · refine kx_st 0 (pc' := 87) (L' := [some (.ref 65), some (.int (nI k)), some (.int (nI a)), some (.int (nI b)), some (.int (kx_mq q (K k) a b)), none]) (st' := []) (h' := kv_wd g w) rfl ?_
                    refine kx_st 4 (pc' := 96) (L' := [some (.ref 65), some (.int (nI k)), some (.int (nI a)), some (.int (nI b)), some (.int (kx_mq q (K k) a b)), some (.int 1)]) (st' := [.int 1]) (h' := kv_wd g w) rfl ?_
                    refine kx_st 1 (pc' := 122) (L' := [some (.ref 65), some (.int (nI k)), some (.int (nI a)), some (.int (nI b)), some (.int (kx_mq q (K k) a b)), some (.int 1)]) (st' := []) (h' := kv_wd g w) rfl ?_
                    refine kx_st 2 (pc' := 127) (L' := [some (.ref 65), some (.int (nI k)), some (.int (nI a)), some (.int (nI b)), some (.int (kx_mq q (K k) a b)), some (.int 1)]) (st' := [.int 1]) (h' := kv_wd g w) rfl ?_
                    refine kx_ret (v := some (.int 1)) rfl ?_
                    have ow : kx_ow (K k) a b := by
                      rw [kk 2 (by omega)] at h54
                      rw [kk 3 (by omega)] at h64
                      rw [kk 2 (by omega)] at h74
                      rw [kk 3 (by omega)] at h84
                      grind
                    exact ⟨kx_l1 ⟨kx_xt (kx_K_tied hK) (by rw [← kk 7 (by omega)]; exact h32), ⟨h14, h22⟩, h42, Or.inl ow⟩, g 65, fun _ _ => rfl, by rw [kv_uf_id]⟩
          · refine kx_st 0 (pc' := 45) (L' := [some (.ref 65), some (.int (nI k)), some (.int (nI a)), some (.int (nI b)), some (.int (kx_mq q (K k) a b)), none]) (st' := []) (h' := kv_wd g w) rfl ?_
            refine kx_st 1 (pc' := 46) (L' := [some (.ref 65), some (.int (nI k)), some (.int (nI a)), some (.int (nI b)), some (.int (kx_mq q (K k) a b)), none]) (st' := [.int 0]) (h' := kv_wd g w) rfl ?_
            refine kx_ret (v := some (.int 0)) rfl ?_
            exact ⟨kx_l0 (fun z => h42 z.2.2.1), g 65, fun _ _ => rfl, by rw [kv_uf_id]⟩)
  exact ⟨f', hF, he⟩
set_option maxRecDepth 100000 in
theorem ev_misOwn {E : kv_V} {d : Nat} {g : kv_S} {w : kv_W} {F0 F1 : kx_FF} {s t m : Nat} {K : Nat → Nat → Int32} (hM : kx_M F0 F1 s t m K (g 66)) (q : kx_Q) (hq : kx_hmq (g 66) q) (k : Nat) (hkm : k < m) (hK : kx_K s k (K k) (K k)) (a b : Nat) (ha : a < s) (hb : b < s) (ka : K k 2 = nI a) (kb : K k 3 = nI b) : ∃ f' : Nat → Int32, (∀ k, (k < 7 ∨ 14 < k) → f' k = g 65 k) ∧ kv_ev E (d + 102) 175 [.ref 65, .int (nI k)] (kv_wd g w) (some (.int (kx_b (kx_io F1 t q (K k) a b)))) (kv_wd (kv_uf g 65 f') w) := by
  have hk : k < 8 := by have := hM.1.2.2.2; omega
  have kk : ∀ c, c < 9 → g 66 (26 + 9 * k + c) = K k c := hM.2.2.2.2 k hkm
  obtain ⟨v, hf, he, rfl, f', hF, rfl⟩ := kx_evP (E := E) (d := d + 101) (y := 175) (h := kv_wd g w) (as := [.ref 65, .int (nI k)]) (P := fun v h => v = (some (.int (kx_b (kx_io F1 t q (K k) a b))) : Option Value) ∧ ∃ f' : Nat → Int32, (∀ k, (k < 7 ∨ 14 < k) → f' k = g 65 k) ∧ h = kv_wd (kv_uf g 65 f') w) (by decide) (Nat.le_of_ble_eq_true rfl) (by
    refine kx_st 0 (pc' := 0) (L' := [some (.ref 65), some (.int (nI k))]) (st' := []) (h' := kv_wd g w) rfl ?_
    refine kx_st 5 (pc' := 5) (L' := [some (.ref 65), some (.int (nI k))]) (st' := [.int 2, .int (nI k), .ref 65, .int (nI k), .ref 65]) (h' := kv_wd g w) rfl ?_
    refine kx_call (z := 136) (as := [.ref 65, .int (nI k), .int 2]) (rest := [.int (nI k), .ref 65]) (v := some (.int (g 66 (26 + 9 * k + 2)))) (h1 := kv_wd g w) rfl (ev_its (d := d + 100) k 2 (by omega)) ?_
    refine kx_st 0 (pc' := 8) (L' := [some (.ref 65), some (.int (nI k))]) (st' := [.int (g 66 (26 + 9 * k + 2)), .int (nI k), .ref 65]) (h' := kv_wd g w) rfl ?_
    refine kx_st 3 (pc' := 11) (L' := [some (.ref 65), some (.int (nI k))]) (st' := [.int 3, .int (nI k), .ref 65, .int (g 66 (26 + 9 * k + 2)), .int (nI k), .ref 65]) (h' := kv_wd g w) rfl ?_
    refine kx_call (z := 136) (as := [.ref 65, .int (nI k), .int 3]) (rest := [.int (g 66 (26 + 9 * k + 2)), .int (nI k), .ref 65]) (v := some (.int (g 66 (26 + 9 * k + 3)))) (h1 := kv_wd g w) rfl (ev_its (d := d + 100) k 3 (by omega)) ?_
    refine kx_st 0 (pc' := 14) (L' := [some (.ref 65), some (.int (nI k))]) (st' := [.int (g 66 (26 + 9 * k + 3)), .int (g 66 (26 + 9 * k + 2)), .int (nI k), .ref 65]) (h' := kv_wd g w) rfl ?_
    obtain ⟨f14, k14, e14⟩ := ev_canTwo (E := E) (d := d) (w := w) hM q hq k hkm hK a b ha hb
    refine kx_call (z := 174) (as := [.ref 65, .int (nI k), .int (g 66 (26 + 9 * k + 2)), .int (g 66 (26 + 9 * k + 3))]) (rest := []) (v := some (.int (kx_b (kx_cn F1 t q (K k) a b)))) (h1 := kv_wd (kv_uf g 65 f14) w) rfl (by rw [(kk 2 (by omega)).trans ka, (kk 3 (by omega)).trans kb]; exact e14) ?_
    refine kx_st 0 (pc' := 17) (L' := [some (.ref 65), some (.int (nI k))]) (st' := [.int (kx_b (kx_cn F1 t q (K k) a b))]) (h' := kv_wd (kv_uf g 65 f14) w) rfl ?_
    refine kx_bn (t := 40) rfl rfl (fun (h17 : (kx_cn F1 t q (K k) a b)) => ?_) (fun (h17 : ¬ (kx_cn F1 t q (K k) a b)) => ?_)
    · refine kx_st 2 (pc' := 45) (L' := [some (.ref 65), some (.int (nI k))]) (st' := [.int 1]) (h' := kv_wd (kv_uf g 65 f14) w) rfl ?_
      refine kx_ret (v := some (.int 1)) rfl ?_
      exact ⟨kx_l1 (Or.inl h17), f14, k14, rfl⟩
    · refine kx_st 0 (pc' := 20) (L' := [some (.ref 65), some (.int (nI k))]) (st' := []) (h' := kv_wd (kv_uf g 65 f14) w) rfl ?_
      refine kx_st 5 (pc' := 25) (L' := [some (.ref 65), some (.int (nI k))]) (st' := [.int 3, .int (nI k), .ref 65, .int (nI k), .ref 65]) (h' := kv_wd (kv_uf g 65 f14) w) rfl ?_
      refine kx_call (z := 136) (as := [.ref 65, .int (nI k), .int 3]) (rest := [.int (nI k), .ref 65]) (v := some (.int ((kv_uf g 65 f14) 66 (26 + 9 * k + 3)))) (h1 := kv_wd (kv_uf g 65 f14) w) rfl (ev_its (d := d + 100) k 3 (by omega)) ?_
      refine kx_st 0 (pc' := 28) (L' := [some (.ref 65), some (.int (nI k))]) (st' := [.int ((kv_uf g 65 f14) 66 (26 + 9 * k + 3)), .int (nI k), .ref 65]) (h' := kv_wd (kv_uf g 65 f14) w) rfl ?_
      refine kx_st 3 (pc' := 31) (L' := [some (.ref 65), some (.int (nI k))]) (st' := [.int 2, .int (nI k), .ref 65, .int ((kv_uf g 65 f14) 66 (26 + 9 * k + 3)), .int (nI k), .ref 65]) (h' := kv_wd (kv_uf g 65 f14) w) rfl ?_
      refine kx_call (z := 136) (as := [.ref 65, .int (nI k), .int 2]) (rest := [.int ((kv_uf g 65 f14) 66 (26 + 9 * k + 3)), .int (nI k), .ref 65]) (v := some (.int ((kv_uf g 65 f14) 66 (26 + 9 * k + 2)))) (h1 := kv_wd (kv_uf g 65 f14) w) rfl (ev_its (d := d + 100) k 2 (by omega)) ?_
      refine kx_st 0 (pc' := 34) (L' := [some (.ref 65), some (.int (nI k))]) (st' := [.int ((kv_uf g 65 f14) 66 (26 + 9 * k + 2)), .int ((kv_uf g 65 f14) 66 (26 + 9 * k + 3)), .int (nI k), .ref 65]) (h' := kv_wd (kv_uf g 65 f14) w) rfl ?_
      obtain ⟨f34, k34, e34⟩ := ev_canTwo (E := E) (d := d) (g := kv_uf g 65 f14) (w := w) hM q hq k hkm hK b a hb ha
      refine kx_call (z := 174) (as := [.ref 65, .int (nI k), .int ((kv_uf g 65 f14) 66 (26 + 9 * k + 3)), .int ((kv_uf g 65 f14) 66 (26 + 9 * k + 2))]) (rest := []) (v := some (.int (kx_b (kx_cn F1 t q (K k) b a)))) (h1 := kv_wd (kv_uf (kv_uf g 65 f14) 65 f34) w) rfl (by show kv_ev _ _ _ [_, _, .int (g 66 (26 + 9 * k + 3)), .int (g 66 (26 + 9 * k + 2))] _ _ _; rw [(kk 2 (by omega)).trans ka, (kk 3 (by omega)).trans kb]; exact e34) ?_
      refine kx_st 0 (pc' := 37) (L' := [some (.ref 65), some (.int (nI k))]) (st' := [.int (kx_b (kx_cn F1 t q (K k) b a))]) (h' := kv_wd (kv_uf (kv_uf g 65 f14) 65 f34) w) rfl ?_
      refine kx_be (t := 44) rfl rfl (fun (h37 : ¬ (kx_cn F1 t q (K k) b a)) => ?_) (fun (h37 : (kx_cn F1 t q (K k) b a)) => ?_)
      · refine kx_st 1 (pc' := 45) (L' := [some (.ref 65), some (.int (nI k))]) (st' := [.int 0]) (h' := kv_wd (kv_uf (kv_uf g 65 f14) 65 f34) w) rfl ?_
        refine kx_ret (v := some (.int 0)) rfl ?_
        exact ⟨kx_l0 (fun z => z.elim h17 h37), f34, fun x hx => (k34 x hx).trans (k14 x hx), by rw [kv_uf_uf]⟩
      · refine kx_st 0 (pc' := 40) (L' := [some (.ref 65), some (.int (nI k))]) (st' := []) (h' := kv_wd (kv_uf (kv_uf g 65 f14) 65 f34) w) rfl ?_
        refine kx_st 2 (pc' := 45) (L' := [some (.ref 65), some (.int (nI k))]) (st' := [.int 1]) (h' := kv_wd (kv_uf (kv_uf g 65 f14) 65 f34) w) rfl ?_
        refine kx_ret (v := some (.int 1)) rfl ?_
        exact ⟨kx_l1 (Or.inr h37), f34, fun x hx => (k34 x hx).trans (k14 x hx), by rw [kv_uf_uf]⟩)
  exact ⟨f', hF, he⟩
