/-! alike of the reference; heldBy, holds -/
theorem kx_jt {E : kv_V} {d y pc : Nat} {L : kv_L} {st : List Value} {h : kv_H} {P : Option Value → kv_H → Prop} {c : ClassFile.Cond} {off : Int} {t : Nat} {x : Int32} (hat : kv_at y pc = some (.ifCond c off, 3)) (hj : kv_j pc off = some t) (hx : kv_ic c x 0 = true) (k1 : kx_V E d y t L st h P) : kx_V E d y pc L (.int x :: st) h P := kx_bc hat hj (fun _ => k1) (fun q => absurd ((kx_P_ic c x 0).mp hx) q)
theorem kx_jf {E : kv_V} {d y pc : Nat} {L : kv_L} {st : List Value} {h : kv_H} {P : Option Value → kv_H → Prop} {c : ClassFile.Cond} {off : Int} {t : Nat} {x : Int32} (hat : kv_at y pc = some (.ifCond c off, 3)) (hj : kv_j pc off = some t) (hx : kv_ic c x 0 = false) (k2 : kx_V E d y (pc + 3) L st h P) : kx_V E d y pc L (.int x :: st) h P := kx_bc hat hj (fun q => absurd ((kx_P_ic c x 0).mpr q) (by rw [hx]; decide)) (fun _ => k2)
def kx_alM (T C : Nat → Int32) (a b : Nat) : Int32 := kx_b (T a = 1 ∧ T b = 1 ∧ C a = C b)
set_option maxRecDepth 100000 in
theorem lp_malikeI {E : kv_V} {d : Nat} {g : kv_S} {w : kv_W} (b : Int32) (i : Nat) (hi : i < 8) {P : Option Value → kv_H → Prop} (hP : kx_V E (d + 1) 196 72 [some (.ref 65), some (.int (b + kx_sum ((kx_alM (fun a => g 66 (26 + 9 * a + 7)) (fun a => g 66 (26 + 9 * a + 4))) i) i)), some (.int (nI i)), some (.int (nI i))] [] (kv_wd g w) P) : ∀ (n j : Nat), j + n = i → kx_V E (d + 1) 196 16 [some (.ref 65), some (.int (b + kx_sum ((kx_alM (fun a => g 66 (26 + 9 * a + 7)) (fun a => g 66 (26 + 9 * a + 4))) i) j)), some (.int (nI i)), some (.int (nI j))] [] (kv_wd g w) P := by
  intro n
  induction n with
  | zero =>
    intro j hj
    have hji : j = i := by omega
    refine kx_st 2 (pc' := 18) (L' := [some (.ref 65), some (.int (b + kx_sum ((kx_alM (fun a => g 66 (26 + 9 * a + 7)) (fun a => g 66 (26 + 9 * a + 4))) i) j)), some (.int (nI i)), some (.int (nI j))]) (st' := [.int (nI i), .int (nI j)]) (h' := kv_wd g w) rfl ?_
    refine kx_bi (t := 72) rfl rfl (fun (h18 : nI i ≤ nI j) => ?_) (fun (h18 : ¬ (nI i ≤ nI j)) => ?_)
    · subst hji
      exact hP
    · exact absurd (nI_le (a := i) (b := j) (by omega) (by omega)) h18
  | succ n ih =>
    intro j hj
    refine kx_st 2 (pc' := 18) (L' := [some (.ref 65), some (.int (b + kx_sum ((kx_alM (fun a => g 66 (26 + 9 * a + 7)) (fun a => g 66 (26 + 9 * a + 4))) i) j)), some (.int (nI i)), some (.int (nI j))]) (st' := [.int (nI i), .int (nI j)]) (h' := kv_wd g w) rfl ?_
    refine kx_bi (t := 72) rfl rfl (fun (h18 : nI i ≤ nI j) => ?_) (fun (h18 : ¬ (nI i ≤ nI j)) => ?_)
    · exact absurd h18 (nI_ge (by omega) (by omega))
    · refine kx_st 0 (pc' := 21) (L' := [some (.ref 65), some (.int (b + kx_sum ((kx_alM (fun a => g 66 (26 + 9 * a + 7)) (fun a => g 66 (26 + 9 * a + 4))) i) j)), some (.int (nI i)), some (.int (nI j))]) (st' := []) (h' := kv_wd g w) rfl ?_
      refine kx_st 4 (pc' := 26) (L' := [some (.ref 65), some (.int (b + kx_sum ((kx_alM (fun a => g 66 (26 + 9 * a + 7)) (fun a => g 66 (26 + 9 * a + 4))) i) j)), some (.int (nI i)), some (.int (nI j))]) (st' := [.int 7, .int (nI i), .ref 65, .int (b + kx_sum ((kx_alM (fun a => g 66 (26 + 9 * a + 7)) (fun a => g 66 (26 + 9 * a + 4))) i) j)]) (h' := kv_wd g w) rfl ?_
      refine kx_call (z := 136) (as := [.ref 65, .int (nI i), .int 7]) (rest := [.int (b + kx_sum ((kx_alM (fun a => g 66 (26 + 9 * a + 7)) (fun a => g 66 (26 + 9 * a + 4))) i) j)]) (v := some (.int (g 66 (26 + 9 * i + 7)))) (h1 := kv_wd g w) rfl (ev_its (d := d) i 7 (by omega)) ?_
      refine kx_st 0 (pc' := 29) (L' := [some (.ref 65), some (.int (b + kx_sum ((kx_alM (fun a => g 66 (26 + 9 * a + 7)) (fun a => g 66 (26 + 9 * a + 4))) i) j)), some (.int (nI i)), some (.int (nI j))]) (st' := [.int (g 66 (26 + 9 * i + 7)), .int (b + kx_sum ((kx_alM (fun a => g 66 (26 + 9 * a + 7)) (fun a => g 66 (26 + 9 * a + 4))) i) j)]) (h' := kv_wd g w) rfl ?_
      refine kx_st 1 (pc' := 30) (L' := [some (.ref 65), some (.int (b + kx_sum ((kx_alM (fun a => g 66 (26 + 9 * a + 7)) (fun a => g 66 (26 + 9 * a + 4))) i) j)), some (.int (nI i)), some (.int (nI j))]) (st' := [.int 1, .int (g 66 (26 + 9 * i + 7)), .int (b + kx_sum ((kx_alM (fun a => g 66 (26 + 9 * a + 7)) (fun a => g 66 (26 + 9 * a + 4))) i) j)]) (h' := kv_wd g w) rfl ?_
      refine kx_bi (t := 63) rfl rfl (fun (h30 : ¬ g 66 (26 + 9 * i + 7) = 1) => ?_) (fun (h30 : ¬ (¬ g 66 (26 + 9 * i + 7) = 1)) => ?_)
      · refine kx_st 5 (pc' := 16) (L' := [some (.ref 65), some (.int ((b + kx_sum ((kx_alM (fun a => g 66 (26 + 9 * a + 7)) (fun a => g 66 (26 + 9 * a + 4))) i) j) + 0)), some (.int (nI i)), some (.int ((nI j) + 1))]) (st' := []) (h' := kv_wd g w) rfl ?_
        have e : kx_alM (fun a => g 66 (26 + 9 * a + 7)) (fun a => g 66 (26 + 9 * a + 4)) i j = 0 := kx_b_neg (fun q => h30 q.1)
        rw [← nI_succ, ← e, Int32.add_assoc]
        exact ih (j + 1) (by omega)
      · refine kx_st 0 (pc' := 33) (L' := [some (.ref 65), some (.int (b + kx_sum ((kx_alM (fun a => g 66 (26 + 9 * a + 7)) (fun a => g 66 (26 + 9 * a + 4))) i) j)), some (.int (nI i)), some (.int (nI j))]) (st' := [.int (b + kx_sum ((kx_alM (fun a => g 66 (26 + 9 * a + 7)) (fun a => g 66 (26 + 9 * a + 4))) i) j)]) (h' := kv_wd g w) rfl ?_
        refine kx_st 3 (pc' := 37) (L' := [some (.ref 65), some (.int (b + kx_sum ((kx_alM (fun a => g 66 (26 + 9 * a + 7)) (fun a => g 66 (26 + 9 * a + 4))) i) j)), some (.int (nI i)), some (.int (nI j))]) (st' := [.int 7, .int (nI j), .ref 65, .int (b + kx_sum ((kx_alM (fun a => g 66 (26 + 9 * a + 7)) (fun a => g 66 (26 + 9 * a + 4))) i) j)]) (h' := kv_wd g w) rfl ?_
        refine kx_call (z := 136) (as := [.ref 65, .int (nI j), .int 7]) (rest := [.int (b + kx_sum ((kx_alM (fun a => g 66 (26 + 9 * a + 7)) (fun a => g 66 (26 + 9 * a + 4))) i) j)]) (v := some (.int (g 66 (26 + 9 * j + 7)))) (h1 := kv_wd g w) rfl (ev_its (d := d) j 7 (by omega)) ?_
        refine kx_st 0 (pc' := 40) (L' := [some (.ref 65), some (.int (b + kx_sum ((kx_alM (fun a => g 66 (26 + 9 * a + 7)) (fun a => g 66 (26 + 9 * a + 4))) i) j)), some (.int (nI i)), some (.int (nI j))]) (st' := [.int (g 66 (26 + 9 * j + 7)), .int (b + kx_sum ((kx_alM (fun a => g 66 (26 + 9 * a + 7)) (fun a => g 66 (26 + 9 * a + 4))) i) j)]) (h' := kv_wd g w) rfl ?_
        refine kx_st 1 (pc' := 41) (L' := [some (.ref 65), some (.int (b + kx_sum ((kx_alM (fun a => g 66 (26 + 9 * a + 7)) (fun a => g 66 (26 + 9 * a + 4))) i) j)), some (.int (nI i)), some (.int (nI j))]) (st' := [.int 1, .int (g 66 (26 + 9 * j + 7)), .int (b + kx_sum ((kx_alM (fun a => g 66 (26 + 9 * a + 7)) (fun a => g 66 (26 + 9 * a + 4))) i) j)]) (h' := kv_wd g w) rfl ?_
        refine kx_bi (t := 63) rfl rfl (fun (h41 : ¬ g 66 (26 + 9 * j + 7) = 1) => ?_) (fun (h41 : ¬ (¬ g 66 (26 + 9 * j + 7) = 1)) => ?_)
        · refine kx_st 5 (pc' := 16) (L' := [some (.ref 65), some (.int ((b + kx_sum ((kx_alM (fun a => g 66 (26 + 9 * a + 7)) (fun a => g 66 (26 + 9 * a + 4))) i) j) + 0)), some (.int (nI i)), some (.int ((nI j) + 1))]) (st' := []) (h' := kv_wd g w) rfl ?_
          have e : kx_alM (fun a => g 66 (26 + 9 * a + 7)) (fun a => g 66 (26 + 9 * a + 4)) i j = 0 := kx_b_neg (fun q => h41 q.2.1)
          rw [← nI_succ, ← e, Int32.add_assoc]
          exact ih (j + 1) (by omega)
        · refine kx_st 0 (pc' := 44) (L' := [some (.ref 65), some (.int (b + kx_sum ((kx_alM (fun a => g 66 (26 + 9 * a + 7)) (fun a => g 66 (26 + 9 * a + 4))) i) j)), some (.int (nI i)), some (.int (nI j))]) (st' := [.int (b + kx_sum ((kx_alM (fun a => g 66 (26 + 9 * a + 7)) (fun a => g 66 (26 + 9 * a + 4))) i) j)]) (h' := kv_wd g w) rfl ?_
          refine kx_st 3 (pc' := 47) (L' := [some (.ref 65), some (.int (b + kx_sum ((kx_alM (fun a => g 66 (26 + 9 * a + 7)) (fun a => g 66 (26 + 9 * a + 4))) i) j)), some (.int (nI i)), some (.int (nI j))]) (st' := [.int 4, .int (nI i), .ref 65, .int (b + kx_sum ((kx_alM (fun a => g 66 (26 + 9 * a + 7)) (fun a => g 66 (26 + 9 * a + 4))) i) j)]) (h' := kv_wd g w) rfl ?_
          refine kx_call (z := 136) (as := [.ref 65, .int (nI i), .int 4]) (rest := [.int (b + kx_sum ((kx_alM (fun a => g 66 (26 + 9 * a + 7)) (fun a => g 66 (26 + 9 * a + 4))) i) j)]) (v := some (.int (g 66 (26 + 9 * i + 4)))) (h1 := kv_wd g w) rfl (ev_its (d := d) i 4 (by omega)) ?_
          refine kx_st 0 (pc' := 50) (L' := [some (.ref 65), some (.int (b + kx_sum ((kx_alM (fun a => g 66 (26 + 9 * a + 7)) (fun a => g 66 (26 + 9 * a + 4))) i) j)), some (.int (nI i)), some (.int (nI j))]) (st' := [.int (g 66 (26 + 9 * i + 4)), .int (b + kx_sum ((kx_alM (fun a => g 66 (26 + 9 * a + 7)) (fun a => g 66 (26 + 9 * a + 4))) i) j)]) (h' := kv_wd g w) rfl ?_
          refine kx_st 3 (pc' := 53) (L' := [some (.ref 65), some (.int (b + kx_sum ((kx_alM (fun a => g 66 (26 + 9 * a + 7)) (fun a => g 66 (26 + 9 * a + 4))) i) j)), some (.int (nI i)), some (.int (nI j))]) (st' := [.int 4, .int (nI j), .ref 65, .int (g 66 (26 + 9 * i + 4)), .int (b + kx_sum ((kx_alM (fun a => g 66 (26 + 9 * a + 7)) (fun a => g 66 (26 + 9 * a + 4))) i) j)]) (h' := kv_wd g w) rfl ?_
          refine kx_call (z := 136) (as := [.ref 65, .int (nI j), .int 4]) (rest := [.int (g 66 (26 + 9 * i + 4)), .int (b + kx_sum ((kx_alM (fun a => g 66 (26 + 9 * a + 7)) (fun a => g 66 (26 + 9 * a + 4))) i) j)]) (v := some (.int (g 66 (26 + 9 * j + 4)))) (h1 := kv_wd g w) rfl (ev_its (d := d) j 4 (by omega)) ?_
          refine kx_st 0 (pc' := 56) (L' := [some (.ref 65), some (.int (b + kx_sum ((kx_alM (fun a => g 66 (26 + 9 * a + 7)) (fun a => g 66 (26 + 9 * a + 4))) i) j)), some (.int (nI i)), some (.int (nI j))]) (st' := [.int (g 66 (26 + 9 * j + 4)), .int (g 66 (26 + 9 * i + 4)), .int (b + kx_sum ((kx_alM (fun a => g 66 (26 + 9 * a + 7)) (fun a => g 66 (26 + 9 * a + 4))) i) j)]) (h' := kv_wd g w) rfl ?_
          refine kx_bi (t := 63) rfl rfl (fun (h56 : ¬ g 66 (26 + 9 * i + 4) = g 66 (26 + 9 * j + 4)) => ?_) (fun (h56 : ¬ (¬ g 66 (26 + 9 * i + 4) = g 66 (26 + 9 * j + 4))) => ?_)
          · refine kx_st 5 (pc' := 16) (L' := [some (.ref 65), some (.int ((b + kx_sum ((kx_alM (fun a => g 66 (26 + 9 * a + 7)) (fun a => g 66 (26 + 9 * a + 4))) i) j) + 0)), some (.int (nI i)), some (.int ((nI j) + 1))]) (st' := []) (h' := kv_wd g w) rfl ?_
            have e : kx_alM (fun a => g 66 (26 + 9 * a + 7)) (fun a => g 66 (26 + 9 * a + 4)) i j = 0 := kx_b_neg (fun q => h56 q.2.2)
            rw [← nI_succ, ← e, Int32.add_assoc]
            exact ih (j + 1) (by omega)
          · refine kx_st 0 (pc' := 59) (L' := [some (.ref 65), some (.int (b + kx_sum ((kx_alM (fun a => g 66 (26 + 9 * a + 7)) (fun a => g 66 (26 + 9 * a + 4))) i) j)), some (.int (nI i)), some (.int (nI j))]) (st' := [.int (b + kx_sum ((kx_alM (fun a => g 66 (26 + 9 * a + 7)) (fun a => g 66 (26 + 9 * a + 4))) i) j)]) (h' := kv_wd g w) rfl ?_
            refine kx_st 6 (pc' := 16) (L' := [some (.ref 65), some (.int ((b + kx_sum ((kx_alM (fun a => g 66 (26 + 9 * a + 7)) (fun a => g 66 (26 + 9 * a + 4))) i) j) + 1)), some (.int (nI i)), some (.int ((nI j) + 1))]) (st' := []) (h' := kv_wd g w) rfl ?_
            have e : kx_alM (fun a => g 66 (26 + 9 * a + 7)) (fun a => g 66 (26 + 9 * a + 4)) i j = 1 := kx_b_pos ⟨Classical.not_not.mp h30, Classical.not_not.mp h41, Classical.not_not.mp h56⟩
            rw [← nI_succ, ← e, Int32.add_assoc]
            exact ih (j + 1) (by omega)
set_option maxRecDepth 100000 in
theorem lp_malikeO {E : kv_V} {d : Nat} {g : kv_S} {w : kv_W} (m : Nat) (hm : m ≤ 8) (hm2 : g 66 2 = nI m) {P : Option Value → kv_H → Prop} (hP : P (some (.int (kx_sum (fun i => kx_sum ((kx_alM (fun a => g 66 (26 + 9 * a + 7)) (fun a => g 66 (26 + 9 * a + 4))) i) i) m))) (kv_wd g w)) : ∀ (n i : Nat) (o3 : Option Value), i + n = m → kx_V E (d + 1) 196 4 [some (.ref 65), some (.int (kx_sum (fun i => kx_sum ((kx_alM (fun a => g 66 (26 + 9 * a + 7)) (fun a => g 66 (26 + 9 * a + 4))) i) i) i)), some (.int (nI i)), o3] [] (kv_wd g w) P := by
  intro n
  induction n with
  | zero =>
    intro i o3 hi
    have him : i = m := by omega
    refine kx_st 4 (pc' := 10) (L' := [some (.ref 65), some (.int (kx_sum (fun i => kx_sum ((kx_alM (fun a => g 66 (26 + 9 * a + 7)) (fun a => g 66 (26 + 9 * a + 4))) i) i) i)), some (.int (nI i)), o3]) (st' := [.int 2, .ref 66, .int (nI i)]) (h' := kv_wd g w) rfl ?_
    refine kx_ia (k := 2) rfl rfl (by decide) rfl (by decide) (by decide) ?_
    refine kx_bi (t := 78) rfl rfl (fun (h11 : g 66 2 ≤ nI i) => ?_) (fun (h11 : ¬ (g 66 2 ≤ nI i)) => ?_)
    · refine kx_st 1 (pc' := 79) (L' := [some (.ref 65), some (.int (kx_sum (fun i => kx_sum ((kx_alM (fun a => g 66 (26 + 9 * a + 7)) (fun a => g 66 (26 + 9 * a + 4))) i) i) i)), some (.int (nI i)), o3]) (st' := [.int (kx_sum (fun i => kx_sum ((kx_alM (fun a => g 66 (26 + 9 * a + 7)) (fun a => g 66 (26 + 9 * a + 4))) i) i) i)]) (h' := kv_wd g w) rfl ?_
      refine kx_ret (v := some (.int (kx_sum (fun i => kx_sum ((kx_alM (fun a => g 66 (26 + 9 * a + 7)) (fun a => g 66 (26 + 9 * a + 4))) i) i) i))) rfl ?_
      subst him
      exact hP
    · exact absurd (by rw [hm2]; exact nI_le (a := m) (b := i) (by omega) (by omega)) h11
  | succ n ih =>
    intro i o3 hi
    refine kx_st 4 (pc' := 10) (L' := [some (.ref 65), some (.int (kx_sum (fun i => kx_sum ((kx_alM (fun a => g 66 (26 + 9 * a + 7)) (fun a => g 66 (26 + 9 * a + 4))) i) i) i)), some (.int (nI i)), o3]) (st' := [.int 2, .ref 66, .int (nI i)]) (h' := kv_wd g w) rfl ?_
    refine kx_ia (k := 2) rfl rfl (by decide) rfl (by decide) (by decide) ?_
    refine kx_bi (t := 78) rfl rfl (fun (h11 : g 66 2 ≤ nI i) => ?_) (fun (h11 : ¬ (g 66 2 ≤ nI i)) => ?_)
    · exact absurd h11 (by rw [hm2]; exact nI_ge (by omega) (by omega))
    · refine kx_st 0 (pc' := 14) (L' := [some (.ref 65), some (.int (kx_sum (fun i => kx_sum ((kx_alM (fun a => g 66 (26 + 9 * a + 7)) (fun a => g 66 (26 + 9 * a + 4))) i) i) i)), some (.int (nI i)), o3]) (st' := []) (h' := kv_wd g w) rfl ?_
      refine kx_st 2 (pc' := 16) (L' := [some (.ref 65), some (.int (kx_sum (fun i => kx_sum ((kx_alM (fun a => g 66 (26 + 9 * a + 7)) (fun a => g 66 (26 + 9 * a + 4))) i) i) i)), some (.int (nI i)), some (.int 0)]) (st' := []) (h' := kv_wd g w) rfl ?_
      refine kx_st 0 (pc' := 16) (L' := [some (.ref 65), some (.int (kx_sum (fun i => kx_sum ((kx_alM (fun a => g 66 (26 + 9 * a + 7)) (fun a => g 66 (26 + 9 * a + 4))) i) i) i + kx_sum ((kx_alM (fun a => g 66 (26 + 9 * a + 7)) (fun a => g 66 (26 + 9 * a + 4))) i) 0)), some (.int (nI i)), some (.int (nI 0))]) (st' := []) (h' := kv_wd g w) (by rw [show kx_sum (fun i => kx_sum ((kx_alM (fun a => g 66 (26 + 9 * a + 7)) (fun a => g 66 (26 + 9 * a + 4))) i) i) i + kx_sum ((kx_alM (fun a => g 66 (26 + 9 * a + 7)) (fun a => g 66 (26 + 9 * a + 4))) i) 0 = kx_sum (fun i => kx_sum ((kx_alM (fun a => g 66 (26 + 9 * a + 7)) (fun a => g 66 (26 + 9 * a + 4))) i) i) i from Int32.add_zero _]; rfl) ?_
      refine lp_malikeI _ i (by omega) ?_ i 0 (by omega)
      refine kx_st 2 (pc' := 4) (L' := [some (.ref 65), some (.int (kx_sum (fun i => kx_sum ((kx_alM (fun a => g 66 (26 + 9 * a + 7)) (fun a => g 66 (26 + 9 * a + 4))) i) i) i + kx_sum ((kx_alM (fun a => g 66 (26 + 9 * a + 7)) (fun a => g 66 (26 + 9 * a + 4))) i) i)), some (.int ((nI i) + 1)), some (.int (nI i))]) (st' := []) (h' := kv_wd g w) rfl ?_
      rw [← nI_succ]
      exact ih (i + 1) _ (by omega)
set_option maxRecDepth 100000 in
theorem ev_m_alike {E : kv_V} {d : Nat} {g : kv_S} {w : kv_W} (m : Nat) (hm : m ≤ 8) (hm2 : g 66 2 = nI m) : kv_ev E (d + 2) 196 [.ref 65] (kv_wd g w) (some (.int (kx_sum (fun i => kx_sum ((kx_alM (fun a => g 66 (26 + 9 * a + 7)) (fun a => g 66 (26 + 9 * a + 4))) i) i) m))) (kv_wd g w) := by
  refine kx_ev (d := d + 1) (by decide) (Nat.le_of_ble_eq_true rfl) ?_
  refine kx_st 0 (pc' := 0) (L' := [some (.ref 65), none, none, none]) (st' := []) (h' := kv_wd g w) rfl ?_
  refine kx_st 4 (pc' := 4) (L' := [some (.ref 65), some (.int 0), some (.int 0), none]) (st' := []) (h' := kv_wd g w) rfl ?_
  exact lp_malikeO m hm hm2 ⟨rfl, rfl⟩ m 0 none (by omega)
/-- the set that a knot k holds, of the first n -/
def kx_hs (U T : Nat → Int32) (k : Int32) : Nat → Int32
  | 0 => 0
  | n + 1 => kx_hs U T k n ||| (if ¬ T n = 0 ∧ 0 ≤ U n ∧ (U n = k ∨ ((kx_hs U T k n >>> (U n &&& 31)) &&& 1) = 1) then 1 <<< (nI n &&& 31) else 0)
set_option maxRecDepth 100000 in
theorem lp_heldBy {E : kv_V} {d : Nat} {g : kv_S} {w : kv_W} (hq : kv_qok w) (k : Int32) (m : Nat) (hm : m ≤ 8) (hm4 : g 1 4 = nI m) {P : Option Value → kv_H → Prop} (hP : P (some (.int (kx_hs (fun a => g (14 + a) 6) (fun a => g (14 + a) 7) k m))) (kv_wd g w)) : ∀ (n i : Nat) (o4 o5 : Option Value), i + n = m → kx_V E d 23 4 [some (.ref 1), some (.int k), some (.int (kx_hs (fun a => g (14 + a) 6) (fun a => g (14 + a) 7) k i)), some (.int (nI i)), o4, o5] [] (kv_wd g w) P := by
  intro n
  induction n with
  | zero =>
    intro i o4 o5 hi
    have him : i = m := by omega
    refine kx_st 3 (pc' := 9) (L' := [some (.ref 1), some (.int k), some (.int (kx_hs (fun a => g (14 + a) 6) (fun a => g (14 + a) 7) k i)), some (.int (nI i)), o4, o5]) (st' := [.int (g 1 4), .int (nI i)]) (h' := kv_wd g w) rfl ?_
    refine kx_bi (t := 80) rfl rfl (fun (h9 : g 1 4 ≤ nI i) => ?_) (fun (h9 : ¬ (g 1 4 ≤ nI i)) => ?_)
    · refine kx_st 1 (pc' := 81) (L' := [some (.ref 1), some (.int k), some (.int (kx_hs (fun a => g (14 + a) 6) (fun a => g (14 + a) 7) k i)), some (.int (nI i)), o4, o5]) (st' := [.int (kx_hs (fun a => g (14 + a) 6) (fun a => g (14 + a) 7) k i)]) (h' := kv_wd g w) rfl ?_
      refine kx_ret (v := some (.int (kx_hs (fun a => g (14 + a) 6) (fun a => g (14 + a) 7) k i))) rfl ?_
      subst him
      exact hP
    · exact absurd (by rw [hm4]; exact nI_le (a := m) (b := i) (by omega) (by omega)) h9
  | succ n ih =>
    intro i o4 o5 hi
    refine kx_st 3 (pc' := 9) (L' := [some (.ref 1), some (.int k), some (.int (kx_hs (fun a => g (14 + a) 6) (fun a => g (14 + a) 7) k i)), some (.int (nI i)), o4, o5]) (st' := [.int (g 1 4), .int (nI i)]) (h' := kv_wd g w) rfl ?_
    refine kx_bi (t := 80) rfl rfl (fun (h9 : g 1 4 ≤ nI i) => ?_) (fun (h9 : ¬ (g 1 4 ≤ nI i)) => ?_)
    · exact absurd h9 (by rw [hm4]; exact nI_ge (by omega) (by omega))
    · refine kx_st 0 (pc' := 12) (L' := [some (.ref 1), some (.int k), some (.int (kx_hs (fun a => g (14 + a) 6) (fun a => g (14 + a) 7) k i)), some (.int (nI i)), o4, o5]) (st' := []) (h' := kv_wd g w) rfl ?_
      refine kx_st 3 (pc' := 17) (L' := [some (.ref 1), some (.int k), some (.int (kx_hs (fun a => g (14 + a) 6) (fun a => g (14 + a) 7) k i)), some (.int (nI i)), o4, o5]) (st' := [.int (nI i), .ref 5]) (h' := kv_wd g w) rfl ?_
      refine kx_aa (t := 2) (k := i) (b := 14 + i) rfl rfl (by decide) (by decide) rfl (by omega) (by decide) (hq.1 _ (by omega)) ?_
      refine kx_gf (i := 116) (k := 6) (v := .int (g (14 + i) 6)) rfl rfl (kv_kn_h (show i < 8 by omega)).1 ((kv_kn_h (show i < 8 by omega)).2 _ _) rfl ?_
      refine kx_st 2 (pc' := 25) (L' := [some (.ref 1), some (.int k), some (.int (kx_hs (fun a => g (14 + a) 6) (fun a => g (14 + a) 7) k i)), some (.int (nI i)), some (.int (g (14 + i) 6)), o5]) (st' := [.int (g (14 + i) 6)]) (h' := kv_wd g w) rfl ?_
      refine kx_bc (t := 48) rfl rfl (fun (h25 : g (14 + i) 6 < 0) => ?_) (fun (h25 : ¬ (g (14 + i) 6 < 0)) => ?_)
      · refine kx_st 5 (pc' := 56) (L' := [some (.ref 1), some (.int k), some (.int (kx_hs (fun a => g (14 + a) 6) (fun a => g (14 + a) 7) k i)), some (.int (nI i)), some (.int (g (14 + i) 6)), some (.int 0)]) (st' := [.int (nI i), .ref 5]) (h' := kv_wd g w) rfl ?_
        refine kx_aa (t := 2) (k := i) (b := 14 + i) rfl rfl (by decide) (by decide) rfl (by omega) (by decide) (hq.1 _ (by omega)) ?_
        refine kx_gf (i := 119) (k := 7) (v := .int (g (14 + i) 7)) rfl rfl (kv_kn_h (show i < 8 by omega)).1 ((kv_kn_h (show i < 8 by omega)).2 _ _) rfl ?_
        refine kx_bc (t := 74) rfl rfl (fun (h60 : g (14 + i) 7 = 0) => ?_) (fun (h60 : ¬ (g (14 + i) 7 = 0)) => ?_)
        · refine kx_st 2 (pc' := 4) (L' := [some (.ref 1), some (.int k), some (.int (kx_hs (fun a => g (14 + a) 6) (fun a => g (14 + a) 7) k i)), some (.int ((nI i) + 1)), some (.int (g (14 + i) 6)), some (.int 0)]) (st' := []) (h' := kv_wd g w) rfl ?_
          have e : kx_hs (fun a => g (14 + a) 6) (fun a => g (14 + a) 7) k (i + 1) = (kx_hs (fun a => g (14 + a) 6) (fun a => g (14 + a) 7) k i) := by rw [kx_hs, if_neg (by grind [Int32.not_lt]), kx_or0]
          rw [← nI_succ, ← e]
          exact ih (i + 1) _ _ (by omega)
        · refine kx_st 0 (pc' := 63) (L' := [some (.ref 1), some (.int k), some (.int (kx_hs (fun a => g (14 + a) 6) (fun a => g (14 + a) 7) k i)), some (.int (nI i)), some (.int (g (14 + i) 6)), some (.int 0)]) (st' := []) (h' := kv_wd g w) rfl ?_
          refine kx_st 1 (pc' := 65) (L' := [some (.ref 1), some (.int k), some (.int (kx_hs (fun a => g (14 + a) 6) (fun a => g (14 + a) 7) k i)), some (.int (nI i)), some (.int (g (14 + i) 6)), some (.int 0)]) (st' := [.int 0]) (h' := kv_wd g w) rfl ?_
          refine kx_jt (t := 74) rfl rfl (by decide) ?_
          refine kx_st 0 (pc' := 74) (L' := [some (.ref 1), some (.int k), some (.int (kx_hs (fun a => g (14 + a) 6) (fun a => g (14 + a) 7) k i)), some (.int (nI i)), some (.int (g (14 + i) 6)), some (.int 0)]) (st' := []) (h' := kv_wd g w) rfl ?_
          refine kx_st 2 (pc' := 4) (L' := [some (.ref 1), some (.int k), some (.int (kx_hs (fun a => g (14 + a) 6) (fun a => g (14 + a) 7) k i)), some (.int ((nI i) + 1)), some (.int (g (14 + i) 6)), some (.int 0)]) (st' := []) (h' := kv_wd g w) rfl ?_
          have e : kx_hs (fun a => g (14 + a) 6) (fun a => g (14 + a) 7) k (i + 1) = (kx_hs (fun a => g (14 + a) 6) (fun a => g (14 + a) 7) k i) := by rw [kx_hs, if_neg (by grind [Int32.not_lt]), kx_or0]
          rw [← nI_succ, ← e]
          exact ih (i + 1) _ _ (by omega)
      · refine kx_st 0 (pc' := 28) (L' := [some (.ref 1), some (.int k), some (.int (kx_hs (fun a => g (14 + a) 6) (fun a => g (14 + a) 7) k i)), some (.int (nI i)), some (.int (g (14 + i) 6)), o5]) (st' := []) (h' := kv_wd g w) rfl ?_
        refine kx_st 2 (pc' := 31) (L' := [some (.ref 1), some (.int k), some (.int (kx_hs (fun a => g (14 + a) 6) (fun a => g (14 + a) 7) k i)), some (.int (nI i)), some (.int (g (14 + i) 6)), o5]) (st' := [.int k, .int (g (14 + i) 6)]) (h' := kv_wd g w) rfl ?_
        refine kx_bi (t := 44) rfl rfl (fun (h31 : g (14 + i) 6 = k) => ?_) (fun (h31 : ¬ (g (14 + i) 6 = k)) => ?_)
        · refine kx_st 6 (pc' := 56) (L' := [some (.ref 1), some (.int k), some (.int (kx_hs (fun a => g (14 + a) 6) (fun a => g (14 + a) 7) k i)), some (.int (nI i)), some (.int (g (14 + i) 6)), some (.int 1)]) (st' := [.int (nI i), .ref 5]) (h' := kv_wd g w) rfl ?_
          refine kx_aa (t := 2) (k := i) (b := 14 + i) rfl rfl (by decide) (by decide) rfl (by omega) (by decide) (hq.1 _ (by omega)) ?_
          refine kx_gf (i := 119) (k := 7) (v := .int (g (14 + i) 7)) rfl rfl (kv_kn_h (show i < 8 by omega)).1 ((kv_kn_h (show i < 8 by omega)).2 _ _) rfl ?_
          refine kx_bc (t := 74) rfl rfl (fun (h60 : g (14 + i) 7 = 0) => ?_) (fun (h60 : ¬ (g (14 + i) 7 = 0)) => ?_)
          · refine kx_st 2 (pc' := 4) (L' := [some (.ref 1), some (.int k), some (.int (kx_hs (fun a => g (14 + a) 6) (fun a => g (14 + a) 7) k i)), some (.int ((nI i) + 1)), some (.int (g (14 + i) 6)), some (.int 1)]) (st' := []) (h' := kv_wd g w) rfl ?_
            have e : kx_hs (fun a => g (14 + a) 6) (fun a => g (14 + a) 7) k (i + 1) = (kx_hs (fun a => g (14 + a) 6) (fun a => g (14 + a) 7) k i) := by rw [kx_hs, if_neg (by grind [Int32.not_lt]), kx_or0]
            rw [← nI_succ, ← e]
            exact ih (i + 1) _ _ (by omega)
          · refine kx_st 0 (pc' := 63) (L' := [some (.ref 1), some (.int k), some (.int (kx_hs (fun a => g (14 + a) 6) (fun a => g (14 + a) 7) k i)), some (.int (nI i)), some (.int (g (14 + i) 6)), some (.int 1)]) (st' := []) (h' := kv_wd g w) rfl ?_
            refine kx_st 1 (pc' := 65) (L' := [some (.ref 1), some (.int k), some (.int (kx_hs (fun a => g (14 + a) 6) (fun a => g (14 + a) 7) k i)), some (.int (nI i)), some (.int (g (14 + i) 6)), some (.int 1)]) (st' := [.int 1]) (h' := kv_wd g w) rfl ?_
            refine kx_jf (t := 74) rfl rfl (by decide) ?_
            refine kx_st 0 (pc' := 68) (L' := [some (.ref 1), some (.int k), some (.int (kx_hs (fun a => g (14 + a) 6) (fun a => g (14 + a) 7) k i)), some (.int (nI i)), some (.int (g (14 + i) 6)), some (.int 1)]) (st' := []) (h' := kv_wd g w) rfl ?_
            refine kx_st 8 (pc' := 4) (L' := [some (.ref 1), some (.int k), some (.int ((kx_hs (fun a => g (14 + a) 6) (fun a => g (14 + a) 7) k i) ||| (1 <<< ((nI i) &&& 31)))), some (.int ((nI i) + 1)), some (.int (g (14 + i) 6)), some (.int 1)]) (st' := []) (h' := kv_wd g w) rfl ?_
            have e : kx_hs (fun a => g (14 + a) 6) (fun a => g (14 + a) 7) k (i + 1) = (kx_hs (fun a => g (14 + a) 6) (fun a => g (14 + a) 7) k i) ||| (1 <<< (nI i &&& 31)) := by rw [kx_hs, if_pos (by refine ⟨?_, ?_, ?_⟩ <;> grind [Int32.not_lt])]
            rw [← nI_succ, ← e]
            exact ih (i + 1) _ _ (by omega)
        · refine kx_st 0 (pc' := 34) (L' := [some (.ref 1), some (.int k), some (.int (kx_hs (fun a => g (14 + a) 6) (fun a => g (14 + a) 7) k i)), some (.int (nI i)), some (.int (g (14 + i) 6)), o5]) (st' := []) (h' := kv_wd g w) rfl ?_
          refine kx_st 6 (pc' := 41) (L' := [some (.ref 1), some (.int k), some (.int (kx_hs (fun a => g (14 + a) 6) (fun a => g (14 + a) 7) k i)), some (.int (nI i)), some (.int (g (14 + i) 6)), o5]) (st' := [.int 1, .int (((kx_hs (fun a => g (14 + a) 6) (fun a => g (14 + a) 7) k i) >>> ((g (14 + i) 6) &&& 31)) &&& 1)]) (h' := kv_wd g w) rfl ?_
          refine kx_bi (t := 48) rfl rfl (fun (h41 : ¬ ((kx_hs (fun a => g (14 + a) 6) (fun a => g (14 + a) 7) k i) >>> ((g (14 + i) 6) &&& 31)) &&& 1 = 1) => ?_) (fun (h41 : ¬ (¬ ((kx_hs (fun a => g (14 + a) 6) (fun a => g (14 + a) 7) k i) >>> ((g (14 + i) 6) &&& 31)) &&& 1 = 1)) => ?_)
          · refine kx_st 5 (pc' := 56) (L' := [some (.ref 1), some (.int k), some (.int (kx_hs (fun a => g (14 + a) 6) (fun a => g (14 + a) 7) k i)), some (.int (nI i)), some (.int (g (14 + i) 6)), some (.int 0)]) (st' := [.int (nI i), .ref 5]) (h' := kv_wd g w) rfl ?_
            refine kx_aa (t := 2) (k := i) (b := 14 + i) rfl rfl (by decide) (by decide) rfl (by omega) (by decide) (hq.1 _ (by omega)) ?_
            refine kx_gf (i := 119) (k := 7) (v := .int (g (14 + i) 7)) rfl rfl (kv_kn_h (show i < 8 by omega)).1 ((kv_kn_h (show i < 8 by omega)).2 _ _) rfl ?_
            refine kx_bc (t := 74) rfl rfl (fun (h60 : g (14 + i) 7 = 0) => ?_) (fun (h60 : ¬ (g (14 + i) 7 = 0)) => ?_)
            · refine kx_st 2 (pc' := 4) (L' := [some (.ref 1), some (.int k), some (.int (kx_hs (fun a => g (14 + a) 6) (fun a => g (14 + a) 7) k i)), some (.int ((nI i) + 1)), some (.int (g (14 + i) 6)), some (.int 0)]) (st' := []) (h' := kv_wd g w) rfl ?_
              have e : kx_hs (fun a => g (14 + a) 6) (fun a => g (14 + a) 7) k (i + 1) = (kx_hs (fun a => g (14 + a) 6) (fun a => g (14 + a) 7) k i) := by rw [kx_hs, if_neg (by grind [Int32.not_lt]), kx_or0]
              rw [← nI_succ, ← e]
              exact ih (i + 1) _ _ (by omega)
            · refine kx_st 0 (pc' := 63) (L' := [some (.ref 1), some (.int k), some (.int (kx_hs (fun a => g (14 + a) 6) (fun a => g (14 + a) 7) k i)), some (.int (nI i)), some (.int (g (14 + i) 6)), some (.int 0)]) (st' := []) (h' := kv_wd g w) rfl ?_
              refine kx_st 1 (pc' := 65) (L' := [some (.ref 1), some (.int k), some (.int (kx_hs (fun a => g (14 + a) 6) (fun a => g (14 + a) 7) k i)), some (.int (nI i)), some (.int (g (14 + i) 6)), some (.int 0)]) (st' := [.int 0]) (h' := kv_wd g w) rfl ?_
              refine kx_jt (t := 74) rfl rfl (by decide) ?_
              refine kx_st 0 (pc' := 74) (L' := [some (.ref 1), some (.int k), some (.int (kx_hs (fun a => g (14 + a) 6) (fun a => g (14 + a) 7) k i)), some (.int (nI i)), some (.int (g (14 + i) 6)), some (.int 0)]) (st' := []) (h' := kv_wd g w) rfl ?_
              refine kx_st 2 (pc' := 4) (L' := [some (.ref 1), some (.int k), some (.int (kx_hs (fun a => g (14 + a) 6) (fun a => g (14 + a) 7) k i)), some (.int ((nI i) + 1)), some (.int (g (14 + i) 6)), some (.int 0)]) (st' := []) (h' := kv_wd g w) rfl ?_
              have e : kx_hs (fun a => g (14 + a) 6) (fun a => g (14 + a) 7) k (i + 1) = (kx_hs (fun a => g (14 + a) 6) (fun a => g (14 + a) 7) k i) := by rw [kx_hs, if_neg (by grind [Int32.not_lt]), kx_or0]
              rw [← nI_succ, ← e]
              exact ih (i + 1) _ _ (by omega)
          · refine kx_st 0 (pc' := 44) (L' := [some (.ref 1), some (.int k), some (.int (kx_hs (fun a => g (14 + a) 6) (fun a => g (14 + a) 7) k i)), some (.int (nI i)), some (.int (g (14 + i) 6)), o5]) (st' := []) (h' := kv_wd g w) rfl ?_
            refine kx_st 6 (pc' := 56) (L' := [some (.ref 1), some (.int k), some (.int (kx_hs (fun a => g (14 + a) 6) (fun a => g (14 + a) 7) k i)), some (.int (nI i)), some (.int (g (14 + i) 6)), some (.int 1)]) (st' := [.int (nI i), .ref 5]) (h' := kv_wd g w) rfl ?_
            refine kx_aa (t := 2) (k := i) (b := 14 + i) rfl rfl (by decide) (by decide) rfl (by omega) (by decide) (hq.1 _ (by omega)) ?_
            refine kx_gf (i := 119) (k := 7) (v := .int (g (14 + i) 7)) rfl rfl (kv_kn_h (show i < 8 by omega)).1 ((kv_kn_h (show i < 8 by omega)).2 _ _) rfl ?_
            refine kx_bc (t := 74) rfl rfl (fun (h60 : g (14 + i) 7 = 0) => ?_) (fun (h60 : ¬ (g (14 + i) 7 = 0)) => ?_)
            · refine kx_st 2 (pc' := 4) (L' := [some (.ref 1), some (.int k), some (.int (kx_hs (fun a => g (14 + a) 6) (fun a => g (14 + a) 7) k i)), some (.int ((nI i) + 1)), some (.int (g (14 + i) 6)), some (.int 1)]) (st' := []) (h' := kv_wd g w) rfl ?_
              have e : kx_hs (fun a => g (14 + a) 6) (fun a => g (14 + a) 7) k (i + 1) = (kx_hs (fun a => g (14 + a) 6) (fun a => g (14 + a) 7) k i) := by rw [kx_hs, if_neg (by grind [Int32.not_lt]), kx_or0]
              rw [← nI_succ, ← e]
              exact ih (i + 1) _ _ (by omega)
            · refine kx_st 0 (pc' := 63) (L' := [some (.ref 1), some (.int k), some (.int (kx_hs (fun a => g (14 + a) 6) (fun a => g (14 + a) 7) k i)), some (.int (nI i)), some (.int (g (14 + i) 6)), some (.int 1)]) (st' := []) (h' := kv_wd g w) rfl ?_
              refine kx_st 1 (pc' := 65) (L' := [some (.ref 1), some (.int k), some (.int (kx_hs (fun a => g (14 + a) 6) (fun a => g (14 + a) 7) k i)), some (.int (nI i)), some (.int (g (14 + i) 6)), some (.int 1)]) (st' := [.int 1]) (h' := kv_wd g w) rfl ?_
              refine kx_jf (t := 74) rfl rfl (by decide) ?_
              refine kx_st 0 (pc' := 68) (L' := [some (.ref 1), some (.int k), some (.int (kx_hs (fun a => g (14 + a) 6) (fun a => g (14 + a) 7) k i)), some (.int (nI i)), some (.int (g (14 + i) 6)), some (.int 1)]) (st' := []) (h' := kv_wd g w) rfl ?_
              refine kx_st 8 (pc' := 4) (L' := [some (.ref 1), some (.int k), some (.int ((kx_hs (fun a => g (14 + a) 6) (fun a => g (14 + a) 7) k i) ||| (1 <<< ((nI i) &&& 31)))), some (.int ((nI i) + 1)), some (.int (g (14 + i) 6)), some (.int 1)]) (st' := []) (h' := kv_wd g w) rfl ?_
              have e : kx_hs (fun a => g (14 + a) 6) (fun a => g (14 + a) 7) k (i + 1) = (kx_hs (fun a => g (14 + a) 6) (fun a => g (14 + a) 7) k i) ||| (1 <<< (nI i &&& 31)) := by rw [kx_hs, if_pos (by refine ⟨?_, ?_, ?_⟩ <;> grind [Int32.not_lt])]
              rw [← nI_succ, ← e]
              exact ih (i + 1) _ _ (by omega)
set_option maxRecDepth 100000 in
theorem ev_heldBy {E : kv_V} {d : Nat} {g : kv_S} {w : kv_W} (hq : kv_qok w) (k : Int32) (m : Nat) (hm : m ≤ 8) (hm4 : g 1 4 = nI m) : kv_ev E (d + 1) 23 [.ref 1, .int k] (kv_wd g w) (some (.int (kx_hs (fun a => g (14 + a) 6) (fun a => g (14 + a) 7) k m))) (kv_wd g w) := by
  refine kx_ev (d := d + 0) (by decide) (Nat.le_of_ble_eq_true rfl) ?_
  refine kx_st 0 (pc' := 0) (L' := [some (.ref 1), some (.int k), none, none, none, none]) (st' := []) (h' := kv_wd g w) rfl ?_
  refine kx_st 4 (pc' := 4) (L' := [some (.ref 1), some (.int k), some (.int 0), some (.int 0), none, none]) (st' := []) (h' := kv_wd g w) rfl ?_
  exact lp_heldBy hq k m hm hm4 ⟨rfl, rfl⟩ m 0 none none (by omega)
set_option maxRecDepth 100000 in
theorem ev_x_holds {E : kv_V} {d : Nat} {g : kv_S} {w : kv_W} (hq : kv_qok w) (k m : Nat) (hm : m ≤ 8) (hm4 : g 1 4 = nI m) (hkm : k < m) : kv_ev E (d + 2) 104 [.ref 0, .int (nI k)] (kv_wd g w) (some (.int (kx_hs (fun a => g (14 + a) 6) (fun a => g (14 + a) 7) (nI k) m))) (kv_wd g w) := by
  refine kx_ev (d := d + 1) (by decide) (Nat.le_of_ble_eq_true rfl) ?_
  refine kx_st 0 (pc' := 0) (L' := [some (.ref 0), some (.int (nI k)), none]) (st' := []) (h' := kv_wd g w) rfl ?_
  refine kx_st 3 (pc' := 5) (L' := [some (.ref 0), some (.int (nI k)), none]) (st' := [.int (nI k), .ref 1]) (h' := kv_wd g w) rfl ?_
  refine kx_call (z := 17) (as := [.ref 1, .int (nI k)]) (rest := []) (v := some (.ref (14 + k))) (h1 := kv_wd g w) rfl (ev_knotAt (d := d) hq k (by omega) (by rw [hm4]; exact nI_lt hkm (by omega))) ?_
  refine kx_st 0 (pc' := 8) (L' := [some (.ref 0), some (.int (nI k)), none]) (st' := [.ref (14 + k)]) (h' := kv_wd g w) rfl ?_
  refine kx_st 2 (pc' := 10) (L' := [some (.ref 0), some (.int (nI k)), some (.ref (14 + k))]) (st' := [.ref (14 + k)]) (h' := kv_wd g w) rfl ?_
  refine kx_st 1 (pc' := 19) (L' := [some (.ref 0), some (.int (nI k)), some (.ref (14 + k))]) (st' := []) (h' := kv_wd g w) rfl ?_
  refine kx_st 3 (pc' := 24) (L' := [some (.ref 0), some (.int (nI k)), some (.ref (14 + k))]) (st' := [.int (nI k), .ref 1]) (h' := kv_wd g w) rfl ?_
  refine kx_call (z := 23) (as := [.ref 1, .int (nI k)]) (rest := []) (v := some (.int (kx_hs (fun a => g (14 + a) 6) (fun a => g (14 + a) 7) (nI k) m))) (h1 := kv_wd g w) rfl (ev_heldBy (d := d) hq (nI k) m hm hm4) ?_
  refine kx_st 0 (pc' := 27) (L' := [some (.ref 0), some (.int (nI k)), some (.ref (14 + k))]) (st' := [.int (kx_hs (fun a => g (14 + a) 6) (fun a => g (14 + a) 7) (nI k) m)]) (h' := kv_wd g w) rfl ?_
  refine kx_ret (v := some (.int (kx_hs (fun a => g (14 + a) 6) (fun a => g (14 + a) 7) (nI k) m))) rfl ?_
  exact ⟨rfl, rfl⟩
set_option maxRecDepth 100000 in
theorem ev_x_holds_n {E : kv_V} {d : Nat} {g : kv_S} {w : kv_W} (z : Int32) (hv : ¬ (0 ≤ z ∧ z < g 1 4)) : kv_ev E (d + 2) 104 [.ref 0, .int z] (kv_wd g w) (some (.int (-1000000000 - nI 1))) (kv_wd (kv_up g 64 1 (g 64 1 + 1)) w) := by
  refine kx_ev (d := d + 1) (by decide) (Nat.le_of_ble_eq_true rfl) ?_
  refine kx_st 0 (pc' := 0) (L' := [some (.ref 0), some (.int z), none]) (st' := []) (h' := kv_wd g w) rfl ?_
  refine kx_st 3 (pc' := 5) (L' := [some (.ref 0), some (.int z), none]) (st' := [.int z, .ref 1]) (h' := kv_wd g w) rfl ?_
  refine kx_call (z := 17) (as := [.ref 1, .int z]) (rest := []) (v := some (.null)) (h1 := kv_wd g w) rfl (ev_knotAt_n (d := d) z hv) ?_
  refine kx_st 0 (pc' := 8) (L' := [some (.ref 0), some (.int z), none]) (st' := [.null]) (h' := kv_wd g w) rfl ?_
  refine kx_st 2 (pc' := 10) (L' := [some (.ref 0), some (.int z), some (.null)]) (st' := [.null]) (h' := kv_wd g w) rfl ?_
  refine kx_st 1 (pc' := 13) (L' := [some (.ref 0), some (.int z), some (.null)]) (st' := []) (h' := kv_wd g w) rfl ?_
  refine kx_st 2 (pc' := 15) (L' := [some (.ref 0), some (.int z), some (.null)]) (st' := [.int 1, .ref 0]) (h' := kv_wd g w) rfl ?_
  refine kx_call (z := 123) (as := [.ref 0, .int 1]) (rest := []) (v := some (.int (-1000000000 - nI 1))) (h1 := kv_wd (kv_up g 64 1 (g 64 1 + 1)) w) rfl (ev_error (d := d) 1 (by decide) (by decide)) ?_
  refine kx_st 0 (pc' := 18) (L' := [some (.ref 0), some (.int z), some (.null)]) (st' := [.int (-1000000000 - nI 1)]) (h' := kv_wd (kv_up g 64 1 (g 64 1 + 1)) w) rfl ?_
  refine kx_ret (v := some (.int (-1000000000 - nI 1))) rfl ?_
  exact ⟨rfl, rfl⟩
/-- the same, a tie being 1 -/
def kx_hm (U T : Nat → Int32) (k : Int32) : Nat → Nat → Int32
  | _, 0 => 0
  | b, n + 1 => if n < b then 0 else kx_hm U T k b n ||| (if T n = 1 ∧ 0 ≤ U n ∧ (U n = k ∨ ((kx_hm U T k b n >>> (U n &&& 31)) &&& 1) = 1) then 1 <<< (nI n &&& 31) else 0)
set_option maxRecDepth 100000 in
theorem lp_mholds {E : kv_V} {d : Nat} {g : kv_S} {w : kv_W} (k m : Nat) (hm : m ≤ 8) (hm2 : g 66 2 = nI m) {P : Option Value → kv_H → Prop} (hP : P (some (.int (kx_hm (fun a => g 66 (26 + 9 * a + 6)) (fun a => g 66 (26 + 9 * a + 7)) (nI k) (k + 1) m))) (kv_wd g w)) : ∀ (n i : Nat) (o4 o5 : Option Value), k + 1 ≤ i → i + n = m → kx_V E (d + 2) 195 21 [some (.ref 65), some (.int (nI k)), some (.int (kx_hm (fun a => g 66 (26 + 9 * a + 6)) (fun a => g 66 (26 + 9 * a + 7)) (nI k) (k + 1) i)), some (.int (nI i)), o4, o5] [] (kv_wd g w) P := by
  intro n
  induction n with
  | zero =>
    intro i o4 o5 hki hi
    have him : i = m := by omega
    refine kx_st 4 (pc' := 27) (L' := [some (.ref 65), some (.int (nI k)), some (.int (kx_hm (fun a => g 66 (26 + 9 * a + 6)) (fun a => g 66 (26 + 9 * a + 7)) (nI k) (k + 1) i)), some (.int (nI i)), o4, o5]) (st' := [.int 2, .ref 66, .int (nI i)]) (h' := kv_wd g w) rfl ?_
    refine kx_ia (k := 2) rfl rfl (by decide) rfl (by decide) (by decide) ?_
    refine kx_bi (t := 100) rfl rfl (fun (h28 : g 66 2 ≤ nI i) => ?_) (fun (h28 : ¬ (g 66 2 ≤ nI i)) => ?_)
    · refine kx_st 1 (pc' := 101) (L' := [some (.ref 65), some (.int (nI k)), some (.int (kx_hm (fun a => g 66 (26 + 9 * a + 6)) (fun a => g 66 (26 + 9 * a + 7)) (nI k) (k + 1) i)), some (.int (nI i)), o4, o5]) (st' := [.int (kx_hm (fun a => g 66 (26 + 9 * a + 6)) (fun a => g 66 (26 + 9 * a + 7)) (nI k) (k + 1) i)]) (h' := kv_wd g w) rfl ?_
      refine kx_ret (v := some (.int (kx_hm (fun a => g 66 (26 + 9 * a + 6)) (fun a => g 66 (26 + 9 * a + 7)) (nI k) (k + 1) i))) rfl ?_
      subst him
      exact hP
    · exact absurd (by rw [hm2]; exact nI_le (a := m) (b := i) (by omega) (by omega)) h28
  | succ n ih =>
    intro i o4 o5 hki hi
    refine kx_st 4 (pc' := 27) (L' := [some (.ref 65), some (.int (nI k)), some (.int (kx_hm (fun a => g 66 (26 + 9 * a + 6)) (fun a => g 66 (26 + 9 * a + 7)) (nI k) (k + 1) i)), some (.int (nI i)), o4, o5]) (st' := [.int 2, .ref 66, .int (nI i)]) (h' := kv_wd g w) rfl ?_
    refine kx_ia (k := 2) rfl rfl (by decide) rfl (by decide) (by decide) ?_
    refine kx_bi (t := 100) rfl rfl (fun (h28 : g 66 2 ≤ nI i) => ?_) (fun (h28 : ¬ (g 66 2 ≤ nI i)) => ?_)
    · exact absurd h28 (by rw [hm2]; exact nI_ge (by omega) (by omega))
    · refine kx_st 0 (pc' := 31) (L' := [some (.ref 65), some (.int (nI k)), some (.int (kx_hm (fun a => g 66 (26 + 9 * a + 6)) (fun a => g 66 (26 + 9 * a + 7)) (nI k) (k + 1) i)), some (.int (nI i)), o4, o5]) (st' := []) (h' := kv_wd g w) rfl ?_
      refine kx_st 3 (pc' := 35) (L' := [some (.ref 65), some (.int (nI k)), some (.int (kx_hm (fun a => g 66 (26 + 9 * a + 6)) (fun a => g 66 (26 + 9 * a + 7)) (nI k) (k + 1) i)), some (.int (nI i)), o4, o5]) (st' := [.int 6, .int (nI i), .ref 65]) (h' := kv_wd g w) rfl ?_
      refine kx_call (z := 136) (as := [.ref 65, .int (nI i), .int 6]) (rest := []) (v := some (.int (g 66 (26 + 9 * i + 6)))) (h1 := kv_wd g w) rfl (ev_its (d := d + 1) i 6 (by omega)) ?_
      refine kx_st 0 (pc' := 38) (L' := [some (.ref 65), some (.int (nI k)), some (.int (kx_hm (fun a => g 66 (26 + 9 * a + 6)) (fun a => g 66 (26 + 9 * a + 7)) (nI k) (k + 1) i)), some (.int (nI i)), o4, o5]) (st' := [.int (g 66 (26 + 9 * i + 6))]) (h' := kv_wd g w) rfl ?_
      refine kx_st 4 (pc' := 44) (L' := [some (.ref 65), some (.int (nI k)), some (.int (kx_hm (fun a => g 66 (26 + 9 * a + 6)) (fun a => g 66 (26 + 9 * a + 7)) (nI k) (k + 1) i)), some (.int (nI i)), some (.int (g 66 (26 + 9 * i + 6))), o5]) (st' := [.int 7, .int (nI i), .ref 65]) (h' := kv_wd g w) rfl ?_
      refine kx_call (z := 136) (as := [.ref 65, .int (nI i), .int 7]) (rest := []) (v := some (.int (g 66 (26 + 9 * i + 7)))) (h1 := kv_wd g w) rfl (ev_its (d := d + 1) i 7 (by omega)) ?_
      refine kx_st 0 (pc' := 47) (L' := [some (.ref 65), some (.int (nI k)), some (.int (kx_hm (fun a => g 66 (26 + 9 * a + 6)) (fun a => g 66 (26 + 9 * a + 7)) (nI k) (k + 1) i)), some (.int (nI i)), some (.int (g 66 (26 + 9 * i + 6))), o5]) (st' := [.int (g 66 (26 + 9 * i + 7))]) (h' := kv_wd g w) rfl ?_
      refine kx_st 1 (pc' := 48) (L' := [some (.ref 65), some (.int (nI k)), some (.int (kx_hm (fun a => g 66 (26 + 9 * a + 6)) (fun a => g 66 (26 + 9 * a + 7)) (nI k) (k + 1) i)), some (.int (nI i)), some (.int (g 66 (26 + 9 * i + 6))), o5]) (st' := [.int 1, .int (g 66 (26 + 9 * i + 7))]) (h' := kv_wd g w) rfl ?_
      refine kx_bi (t := 76) rfl rfl (fun (h48 : ¬ g 66 (26 + 9 * i + 7) = 1) => ?_) (fun (h48 : ¬ (¬ g 66 (26 + 9 * i + 7) = 1)) => ?_)
      · refine kx_st 4 (pc' := 82) (L' := [some (.ref 65), some (.int (nI k)), some (.int (kx_hm (fun a => g 66 (26 + 9 * a + 6)) (fun a => g 66 (26 + 9 * a + 7)) (nI k) (k + 1) i)), some (.int (nI i)), some (.int (g 66 (26 + 9 * i + 6))), some (.int 0)]) (st' := [.int 0, .int (kx_hm (fun a => g 66 (26 + 9 * a + 6)) (fun a => g 66 (26 + 9 * a + 7)) (nI k) (k + 1) i)]) (h' := kv_wd g w) rfl ?_
        refine kx_jt (t := 91) rfl rfl (by decide) ?_
        refine kx_st 0 (pc' := 91) (L' := [some (.ref 65), some (.int (nI k)), some (.int (kx_hm (fun a => g 66 (26 + 9 * a + 6)) (fun a => g 66 (26 + 9 * a + 7)) (nI k) (k + 1) i)), some (.int (nI i)), some (.int (g 66 (26 + 9 * i + 6))), some (.int 0)]) (st' := [.int (kx_hm (fun a => g 66 (26 + 9 * a + 6)) (fun a => g 66 (26 + 9 * a + 7)) (nI k) (k + 1) i)]) (h' := kv_wd g w) rfl ?_
        refine kx_st 5 (pc' := 21) (L' := [some (.ref 65), some (.int (nI k)), some (.int ((kx_hm (fun a => g 66 (26 + 9 * a + 6)) (fun a => g 66 (26 + 9 * a + 7)) (nI k) (k + 1) i) ||| 0)), some (.int ((nI i) + 1)), some (.int (g 66 (26 + 9 * i + 6))), some (.int 0)]) (st' := []) (h' := kv_wd g w) rfl ?_
        have e : kx_hm (fun a => g 66 (26 + 9 * a + 6)) (fun a => g 66 (26 + 9 * a + 7)) (nI k) (k + 1) (i + 1) = (kx_hm (fun a => g 66 (26 + 9 * a + 6)) (fun a => g 66 (26 + 9 * a + 7)) (nI k) (k + 1) i) ||| 0 := by rw [kx_hm, if_neg (by omega), if_neg (by grind [Int32.not_lt])]
        rw [← nI_succ, ← e]
        exact ih (i + 1) _ _ (by omega) (by omega)
      · refine kx_st 0 (pc' := 51) (L' := [some (.ref 65), some (.int (nI k)), some (.int (kx_hm (fun a => g 66 (26 + 9 * a + 6)) (fun a => g 66 (26 + 9 * a + 7)) (nI k) (k + 1) i)), some (.int (nI i)), some (.int (g 66 (26 + 9 * i + 6))), o5]) (st' := []) (h' := kv_wd g w) rfl ?_
        refine kx_st 1 (pc' := 53) (L' := [some (.ref 65), some (.int (nI k)), some (.int (kx_hm (fun a => g 66 (26 + 9 * a + 6)) (fun a => g 66 (26 + 9 * a + 7)) (nI k) (k + 1) i)), some (.int (nI i)), some (.int (g 66 (26 + 9 * i + 6))), o5]) (st' := [.int (g 66 (26 + 9 * i + 6))]) (h' := kv_wd g w) rfl ?_
        refine kx_bc (t := 76) rfl rfl (fun (h53 : g 66 (26 + 9 * i + 6) < 0) => ?_) (fun (h53 : ¬ (g 66 (26 + 9 * i + 6) < 0)) => ?_)
        · refine kx_st 4 (pc' := 82) (L' := [some (.ref 65), some (.int (nI k)), some (.int (kx_hm (fun a => g 66 (26 + 9 * a + 6)) (fun a => g 66 (26 + 9 * a + 7)) (nI k) (k + 1) i)), some (.int (nI i)), some (.int (g 66 (26 + 9 * i + 6))), some (.int 0)]) (st' := [.int 0, .int (kx_hm (fun a => g 66 (26 + 9 * a + 6)) (fun a => g 66 (26 + 9 * a + 7)) (nI k) (k + 1) i)]) (h' := kv_wd g w) rfl ?_
          refine kx_jt (t := 91) rfl rfl (by decide) ?_
          refine kx_st 0 (pc' := 91) (L' := [some (.ref 65), some (.int (nI k)), some (.int (kx_hm (fun a => g 66 (26 + 9 * a + 6)) (fun a => g 66 (26 + 9 * a + 7)) (nI k) (k + 1) i)), some (.int (nI i)), some (.int (g 66 (26 + 9 * i + 6))), some (.int 0)]) (st' := [.int (kx_hm (fun a => g 66 (26 + 9 * a + 6)) (fun a => g 66 (26 + 9 * a + 7)) (nI k) (k + 1) i)]) (h' := kv_wd g w) rfl ?_
          refine kx_st 5 (pc' := 21) (L' := [some (.ref 65), some (.int (nI k)), some (.int ((kx_hm (fun a => g 66 (26 + 9 * a + 6)) (fun a => g 66 (26 + 9 * a + 7)) (nI k) (k + 1) i) ||| 0)), some (.int ((nI i) + 1)), some (.int (g 66 (26 + 9 * i + 6))), some (.int 0)]) (st' := []) (h' := kv_wd g w) rfl ?_
          have e : kx_hm (fun a => g 66 (26 + 9 * a + 6)) (fun a => g 66 (26 + 9 * a + 7)) (nI k) (k + 1) (i + 1) = (kx_hm (fun a => g 66 (26 + 9 * a + 6)) (fun a => g 66 (26 + 9 * a + 7)) (nI k) (k + 1) i) ||| 0 := by rw [kx_hm, if_neg (by omega), if_neg (by grind [Int32.not_lt])]
          rw [← nI_succ, ← e]
          exact ih (i + 1) _ _ (by omega) (by omega)
        · refine kx_st 0 (pc' := 56) (L' := [some (.ref 65), some (.int (nI k)), some (.int (kx_hm (fun a => g 66 (26 + 9 * a + 6)) (fun a => g 66 (26 + 9 * a + 7)) (nI k) (k + 1) i)), some (.int (nI i)), some (.int (g 66 (26 + 9 * i + 6))), o5]) (st' := []) (h' := kv_wd g w) rfl ?_
          refine kx_st 2 (pc' := 59) (L' := [some (.ref 65), some (.int (nI k)), some (.int (kx_hm (fun a => g 66 (26 + 9 * a + 6)) (fun a => g 66 (26 + 9 * a + 7)) (nI k) (k + 1) i)), some (.int (nI i)), some (.int (g 66 (26 + 9 * i + 6))), o5]) (st' := [.int (nI k), .int (g 66 (26 + 9 * i + 6))]) (h' := kv_wd g w) rfl ?_
          refine kx_bi (t := 72) rfl rfl (fun (h59 : g 66 (26 + 9 * i + 6) = nI k) => ?_) (fun (h59 : ¬ (g 66 (26 + 9 * i + 6) = nI k)) => ?_)
          · refine kx_st 5 (pc' := 82) (L' := [some (.ref 65), some (.int (nI k)), some (.int (kx_hm (fun a => g 66 (26 + 9 * a + 6)) (fun a => g 66 (26 + 9 * a + 7)) (nI k) (k + 1) i)), some (.int (nI i)), some (.int (g 66 (26 + 9 * i + 6))), some (.int 1)]) (st' := [.int 1, .int (kx_hm (fun a => g 66 (26 + 9 * a + 6)) (fun a => g 66 (26 + 9 * a + 7)) (nI k) (k + 1) i)]) (h' := kv_wd g w) rfl ?_
            refine kx_jf (t := 91) rfl rfl (by decide) ?_
            refine kx_st 0 (pc' := 85) (L' := [some (.ref 65), some (.int (nI k)), some (.int (kx_hm (fun a => g 66 (26 + 9 * a + 6)) (fun a => g 66 (26 + 9 * a + 7)) (nI k) (k + 1) i)), some (.int (nI i)), some (.int (g 66 (26 + 9 * i + 6))), some (.int 1)]) (st' := [.int (kx_hm (fun a => g 66 (26 + 9 * a + 6)) (fun a => g 66 (26 + 9 * a + 7)) (nI k) (k + 1) i)]) (h' := kv_wd g w) rfl ?_
            refine kx_st 8 (pc' := 21) (L' := [some (.ref 65), some (.int (nI k)), some (.int ((kx_hm (fun a => g 66 (26 + 9 * a + 6)) (fun a => g 66 (26 + 9 * a + 7)) (nI k) (k + 1) i) ||| (1 <<< ((nI i) &&& 31)))), some (.int ((nI i) + 1)), some (.int (g 66 (26 + 9 * i + 6))), some (.int 1)]) (st' := []) (h' := kv_wd g w) rfl ?_
            have e : kx_hm (fun a => g 66 (26 + 9 * a + 6)) (fun a => g 66 (26 + 9 * a + 7)) (nI k) (k + 1) (i + 1) = (kx_hm (fun a => g 66 (26 + 9 * a + 6)) (fun a => g 66 (26 + 9 * a + 7)) (nI k) (k + 1) i) ||| (1 <<< (nI i &&& 31)) := by rw [kx_hm, if_neg (by omega), if_pos (by refine ⟨?_, ?_, ?_⟩ <;> grind [Int32.not_lt])]
            rw [← nI_succ, ← e]
            exact ih (i + 1) _ _ (by omega) (by omega)
          · refine kx_st 0 (pc' := 62) (L' := [some (.ref 65), some (.int (nI k)), some (.int (kx_hm (fun a => g 66 (26 + 9 * a + 6)) (fun a => g 66 (26 + 9 * a + 7)) (nI k) (k + 1) i)), some (.int (nI i)), some (.int (g 66 (26 + 9 * i + 6))), o5]) (st' := []) (h' := kv_wd g w) rfl ?_
            refine kx_st 6 (pc' := 69) (L' := [some (.ref 65), some (.int (nI k)), some (.int (kx_hm (fun a => g 66 (26 + 9 * a + 6)) (fun a => g 66 (26 + 9 * a + 7)) (nI k) (k + 1) i)), some (.int (nI i)), some (.int (g 66 (26 + 9 * i + 6))), o5]) (st' := [.int 1, .int (((kx_hm (fun a => g 66 (26 + 9 * a + 6)) (fun a => g 66 (26 + 9 * a + 7)) (nI k) (k + 1) i) >>> ((g 66 (26 + 9 * i + 6)) &&& 31)) &&& 1)]) (h' := kv_wd g w) rfl ?_
            refine kx_bi (t := 76) rfl rfl (fun (h69 : ¬ ((kx_hm (fun a => g 66 (26 + 9 * a + 6)) (fun a => g 66 (26 + 9 * a + 7)) (nI k) (k + 1) i) >>> ((g 66 (26 + 9 * i + 6)) &&& 31)) &&& 1 = 1) => ?_) (fun (h69 : ¬ (¬ ((kx_hm (fun a => g 66 (26 + 9 * a + 6)) (fun a => g 66 (26 + 9 * a + 7)) (nI k) (k + 1) i) >>> ((g 66 (26 + 9 * i + 6)) &&& 31)) &&& 1 = 1)) => ?_)
            · refine kx_st 4 (pc' := 82) (L' := [some (.ref 65), some (.int (nI k)), some (.int (kx_hm (fun a => g 66 (26 + 9 * a + 6)) (fun a => g 66 (26 + 9 * a + 7)) (nI k) (k + 1) i)), some (.int (nI i)), some (.int (g 66 (26 + 9 * i + 6))), some (.int 0)]) (st' := [.int 0, .int (kx_hm (fun a => g 66 (26 + 9 * a + 6)) (fun a => g 66 (26 + 9 * a + 7)) (nI k) (k + 1) i)]) (h' := kv_wd g w) rfl ?_
              refine kx_jt (t := 91) rfl rfl (by decide) ?_
              refine kx_st 0 (pc' := 91) (L' := [some (.ref 65), some (.int (nI k)), some (.int (kx_hm (fun a => g 66 (26 + 9 * a + 6)) (fun a => g 66 (26 + 9 * a + 7)) (nI k) (k + 1) i)), some (.int (nI i)), some (.int (g 66 (26 + 9 * i + 6))), some (.int 0)]) (st' := [.int (kx_hm (fun a => g 66 (26 + 9 * a + 6)) (fun a => g 66 (26 + 9 * a + 7)) (nI k) (k + 1) i)]) (h' := kv_wd g w) rfl ?_
              refine kx_st 5 (pc' := 21) (L' := [some (.ref 65), some (.int (nI k)), some (.int ((kx_hm (fun a => g 66 (26 + 9 * a + 6)) (fun a => g 66 (26 + 9 * a + 7)) (nI k) (k + 1) i) ||| 0)), some (.int ((nI i) + 1)), some (.int (g 66 (26 + 9 * i + 6))), some (.int 0)]) (st' := []) (h' := kv_wd g w) rfl ?_
              have e : kx_hm (fun a => g 66 (26 + 9 * a + 6)) (fun a => g 66 (26 + 9 * a + 7)) (nI k) (k + 1) (i + 1) = (kx_hm (fun a => g 66 (26 + 9 * a + 6)) (fun a => g 66 (26 + 9 * a + 7)) (nI k) (k + 1) i) ||| 0 := by rw [kx_hm, if_neg (by omega), if_neg (by grind [Int32.not_lt])]
              rw [← nI_succ, ← e]
              exact ih (i + 1) _ _ (by omega) (by omega)
            · refine kx_st 0 (pc' := 72) (L' := [some (.ref 65), some (.int (nI k)), some (.int (kx_hm (fun a => g 66 (26 + 9 * a + 6)) (fun a => g 66 (26 + 9 * a + 7)) (nI k) (k + 1) i)), some (.int (nI i)), some (.int (g 66 (26 + 9 * i + 6))), o5]) (st' := []) (h' := kv_wd g w) rfl ?_
              refine kx_st 5 (pc' := 82) (L' := [some (.ref 65), some (.int (nI k)), some (.int (kx_hm (fun a => g 66 (26 + 9 * a + 6)) (fun a => g 66 (26 + 9 * a + 7)) (nI k) (k + 1) i)), some (.int (nI i)), some (.int (g 66 (26 + 9 * i + 6))), some (.int 1)]) (st' := [.int 1, .int (kx_hm (fun a => g 66 (26 + 9 * a + 6)) (fun a => g 66 (26 + 9 * a + 7)) (nI k) (k + 1) i)]) (h' := kv_wd g w) rfl ?_
              refine kx_jf (t := 91) rfl rfl (by decide) ?_
              refine kx_st 0 (pc' := 85) (L' := [some (.ref 65), some (.int (nI k)), some (.int (kx_hm (fun a => g 66 (26 + 9 * a + 6)) (fun a => g 66 (26 + 9 * a + 7)) (nI k) (k + 1) i)), some (.int (nI i)), some (.int (g 66 (26 + 9 * i + 6))), some (.int 1)]) (st' := [.int (kx_hm (fun a => g 66 (26 + 9 * a + 6)) (fun a => g 66 (26 + 9 * a + 7)) (nI k) (k + 1) i)]) (h' := kv_wd g w) rfl ?_
              refine kx_st 8 (pc' := 21) (L' := [some (.ref 65), some (.int (nI k)), some (.int ((kx_hm (fun a => g 66 (26 + 9 * a + 6)) (fun a => g 66 (26 + 9 * a + 7)) (nI k) (k + 1) i) ||| (1 <<< ((nI i) &&& 31)))), some (.int ((nI i) + 1)), some (.int (g 66 (26 + 9 * i + 6))), some (.int 1)]) (st' := []) (h' := kv_wd g w) rfl ?_
              have e : kx_hm (fun a => g 66 (26 + 9 * a + 6)) (fun a => g 66 (26 + 9 * a + 7)) (nI k) (k + 1) (i + 1) = (kx_hm (fun a => g 66 (26 + 9 * a + 6)) (fun a => g 66 (26 + 9 * a + 7)) (nI k) (k + 1) i) ||| (1 <<< (nI i &&& 31)) := by rw [kx_hm, if_neg (by omega), if_pos (by refine ⟨?_, ?_, ?_⟩ <;> grind [Int32.not_lt])]
              rw [← nI_succ, ← e]
              exact ih (i + 1) _ _ (by omega) (by omega)
theorem kx_hm_0 (U T : Nat → Int32) (k : Int32) (b : Nat) : kx_hm U T k b b = 0 := by cases b with
  | zero => rfl
  | succ n => rw [kx_hm, if_pos (by omega)]
set_option maxRecDepth 100000 in
theorem ev_m_holds {E : kv_V} {d : Nat} {g : kv_S} {w : kv_W} (k m : Nat) (hm : m ≤ 8) (hm2 : g 66 2 = nI m) (hkm : k < m) : kv_ev E (d + 3) 195 [.ref 65, .int (nI k)] (kv_wd g w) (some (.int (kx_hm (fun a => g 66 (26 + 9 * a + 6)) (fun a => g 66 (26 + 9 * a + 7)) (nI k) (k + 1) m))) (kv_wd g w) := by
  refine kx_ev (d := d + 2) (by decide) (Nat.le_of_ble_eq_true rfl) ?_
  refine kx_st 0 (pc' := 0) (L' := [some (.ref 65), some (.int (nI k)), none, none, none, none]) (st' := []) (h' := kv_wd g w) rfl ?_
  refine kx_st 2 (pc' := 2) (L' := [some (.ref 65), some (.int (nI k)), none, none, none, none]) (st' := [.int (nI k), .ref 65]) (h' := kv_wd g w) rfl ?_
  refine kx_call (z := 139) (as := [.ref 65, .int (nI k)]) (rest := []) (v := some (.int (kx_b (0 ≤ nI k ∧ nI k ≤ g 66 2 - 1)))) (h1 := kv_wd g w) rfl (ev_mKnot (d := d) (nI k)) ?_
  refine kx_st 0 (pc' := 5) (L' := [some (.ref 65), some (.int (nI k)), none, none, none, none]) (st' := [.int (kx_b (0 ≤ nI k ∧ nI k ≤ g 66 2 - 1))]) (h' := kv_wd g w) rfl ?_
  refine kx_bn (t := 15) rfl rfl (fun (h5 : (0 ≤ nI k ∧ nI k ≤ g 66 2 - 1)) => ?_) (fun (h5 : ¬ (0 ≤ nI k ∧ nI k ≤ g 66 2 - 1)) => ?_)
  · refine kx_st 6 (pc' := 21) (L' := [some (.ref 65), some (.int (nI k)), some (.int 0), some (.int ((nI k) + 1)), none, none]) (st' := []) (h' := kv_wd g w) rfl ?_
    rw [show nI k + 1 = nI (k + 1) from (nI_succ k).symm]
    have h := lp_mholds (E := E) (d := d) (g := g) (w := w) k m hm hm2 (P := fun v h' => v = some (.int (kx_hm (fun a => g 66 (26 + 9 * a + 6)) (fun a => g 66 (26 + 9 * a + 7)) (nI k) (k + 1) m)) ∧ h' = kv_wd g w) ⟨rfl, rfl⟩ (m - (k + 1)) (k + 1) none none (by omega) (by omega)
    rw [kx_hm_0] at h
    exact h
  · exact absurd (by rw [hm2]; exact (kx_lt1 (by omega)).mpr ⟨nI_pos' (by omega), nI_lt hkm (by omega)⟩) h5
set_option maxRecDepth 100000 in
theorem ev_m_holds_n {E : kv_V} {d : Nat} {g : kv_S} {w : kv_W} (z : Int32) (hz : ¬ (0 ≤ z ∧ z ≤ g 66 2 - 1)) : kv_ev E (d + 3) 195 [.ref 65, .int z] (kv_wd g w) (some (.int (-1000000001))) (kv_wd (kv_up g 70 1 (g 70 1 + 1)) w) := by
  refine kx_ev (d := d + 2) (by decide) (Nat.le_of_ble_eq_true rfl) ?_
  refine kx_st 0 (pc' := 0) (L' := [some (.ref 65), some (.int z), none, none, none, none]) (st' := []) (h' := kv_wd g w) rfl ?_
  refine kx_st 2 (pc' := 2) (L' := [some (.ref 65), some (.int z), none, none, none, none]) (st' := [.int z, .ref 65]) (h' := kv_wd g w) rfl ?_
  refine kx_call (z := 139) (as := [.ref 65, .int z]) (rest := []) (v := some (.int (kx_b (0 ≤ z ∧ z ≤ g 66 2 - 1)))) (h1 := kv_wd g w) rfl (ev_mKnot (d := d) z) ?_
  refine kx_st 0 (pc' := 5) (L' := [some (.ref 65), some (.int z), none, none, none, none]) (st' := [.int (kx_b (0 ≤ z ∧ z ≤ g 66 2 - 1))]) (h' := kv_wd g w) rfl ?_
  refine kx_bn (t := 15) rfl rfl (fun (h5 : (0 ≤ z ∧ z ≤ g 66 2 - 1)) => ?_) (fun (h5 : ¬ (0 ≤ z ∧ z ≤ g 66 2 - 1)) => ?_)
  · exact absurd h5 hz
  · refine kx_st 0 (pc' := 8) (L' := [some (.ref 65), some (.int z), none, none, none, none]) (st' := []) (h' := kv_wd g w) rfl ?_
    refine kx_st 2 (pc' := 11) (L' := [some (.ref 65), some (.int z), none, none, none, none]) (st' := [.int (-1000000001), .ref 65]) (h' := kv_wd g w) rfl ?_
    refine kx_call (z := 131) (as := [.ref 65, .int (-1000000001)]) (rest := []) (v := some (.int (-1000000001))) (h1 := kv_wd (kv_up g 70 1 (g 70 1 + 1)) w) rfl (ev_errs (d := d + 1) (-1000000001) 1 (by decide) (by decide)) ?_
    refine kx_st 0 (pc' := 14) (L' := [some (.ref 65), some (.int z), none, none, none, none]) (st' := [.int (-1000000001)]) (h' := kv_wd (kv_up g 70 1 (g 70 1 + 1)) w) rfl ?_
    refine kx_ret (v := some (.int (-1000000001))) rfl ?_
    exact ⟨rfl, rfl⟩
