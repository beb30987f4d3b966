/-! count, ofKnot, change, as -/
def kx_td (T : Nat → Int32) : Nat → Int32 := fun j => if T j = 0 then 0 else 1 <<< (nI j &&& 31)
theorem kx_td_0 {T : Nat → Int32} {j : Nat} (h : T j = 0) : kx_td T j = 0 := if_pos h
theorem kx_td_1 {T : Nat → Int32} {j : Nat} (h : ¬ T j = 0) : kx_td T j = 1 <<< (nI j &&& 31) := if_neg h
set_option maxRecDepth 100000 in
theorem lp_tiedSet {E : kv_V} {d : Nat} {g : kv_S} {w : kv_W} (hq : kv_qok w) (m : Nat) (hm : m ≤ 8) (hm4 : g 1 4 = nI m) {P : Option Value → kv_H → Prop} (hP : P (some (.int (kx_or (kx_td (fun a => g (14 + a) 7)) m))) (kv_wd g w)) : ∀ nz j : Nat, j + nz = m → kx_V E d 21 4 [some (.ref 1), some (.int (kx_or (kx_td (fun a => g (14 + a) 7)) j)), some (.int (nI j))] [] (kv_wd g w) P := by
  intro nz
  induction nz with
  | zero =>
    intro j hkk
    have hkN : j = m := by omega
    refine kx_st 3 (pc' := 9) (L' := [some (.ref 1), some (.int (kx_or (kx_td (fun a => g (14 + a) 7)) j)), some (.int (nI j))]) (st' := [.int (g 1 4), .int (nI j)]) (h' := kv_wd g w) rfl ?_
    refine kx_bi (t := 36) rfl rfl (fun (h9 : g 1 4 ≤ nI j) => ?_) (fun (h9 : ¬ (g 1 4 ≤ nI j)) => ?_)
    · refine kx_st 1 (pc' := 37) (L' := [some (.ref 1), some (.int (kx_or (kx_td (fun a => g (14 + a) 7)) j)), some (.int (nI j))]) (st' := [.int (kx_or (kx_td (fun a => g (14 + a) 7)) j)]) (h' := kv_wd g w) rfl ?_
      refine kx_ret (v := some (.int (kx_or (kx_td (fun a => g (14 + a) 7)) j))) rfl ?_
      subst hkN
      exact hP
    · exact absurd (by rw [hm4]; exact nI_le (by omega) (by omega)) h9
  | succ nz ih =>
    intro j hkk
    refine kx_st 3 (pc' := 9) (L' := [some (.ref 1), some (.int (kx_or (kx_td (fun a => g (14 + a) 7)) j)), some (.int (nI j))]) (st' := [.int (g 1 4), .int (nI j)]) (h' := kv_wd g w) rfl ?_
    refine kx_bi (t := 36) rfl rfl (fun (h9 : g 1 4 ≤ nI j) => ?_) (fun (h9 : ¬ (g 1 4 ≤ nI j)) => ?_)
    · exact absurd h9 (by rw [hm4]; exact nI_ge (a := j) (b := m) (by omega) (by omega))
    · refine kx_st 0 (pc' := 12) (L' := [some (.ref 1), some (.int (kx_or (kx_td (fun a => g (14 + a) 7)) j)), some (.int (nI j))]) (st' := []) (h' := kv_wd g w) rfl ?_
      refine kx_st 3 (pc' := 17) (L' := [some (.ref 1), some (.int (kx_or (kx_td (fun a => g (14 + a) 7)) j)), some (.int (nI j))]) (st' := [.int (nI j), .ref 5]) (h' := kv_wd g w) rfl ?_
      refine kx_aa (t := 2) (k := j) (b := (14 + j)) rfl rfl (by decide) (by decide) rfl (by omega) (by decide) (hq.1 _ (by omega)) ?_
      refine kx_gf (i := 119) (k := 7) (v := .int (g (14 + j) 7)) rfl rfl (kv_kn_h (by omega : j < 8)).1 ((kv_kn_h (by omega : j < 8)).2 _ _) rfl ?_
      refine kx_bc (t := 30) rfl rfl (fun (h21 : g (14 + j) 7 = 0) => ?_) (fun (h21 : ¬ (g (14 + j) 7 = 0)) => ?_)
      · refine kx_st 2 (pc' := 4) (L' := [some (.ref 1), some (.int (kx_or (kx_td (fun a => g (14 + a) 7)) j)), some (.int ((nI j) + 1))]) (st' := []) (h' := kv_wd g w) rfl ?_
        rw [show kx_or (kx_td (fun a => g (14 + a) 7)) j = kx_or (kx_td (fun a => g (14 + a) 7)) (j + 1) from by rw [kx_or, kx_td_0 (T := fun a => g (14 + a) 7) (j := j) h21, kx_or0], ← nI_succ]
        exact ih (j + 1) (by omega)
      · refine kx_st 0 (pc' := 24) (L' := [some (.ref 1), some (.int (kx_or (kx_td (fun a => g (14 + a) 7)) j)), some (.int (nI j))]) (st' := []) (h' := kv_wd g w) rfl ?_
        refine kx_st 8 (pc' := 4) (L' := [some (.ref 1), some (.int ((kx_or (kx_td (fun a => g (14 + a) 7)) j) ||| (1 <<< ((nI j) &&& 31)))), some (.int ((nI j) + 1))]) (st' := []) (h' := kv_wd g w) rfl ?_
        rw [show kx_or (kx_td (fun a => g (14 + a) 7)) j ||| 1 <<< (nI j &&& 31) = kx_or (kx_td (fun a => g (14 + a) 7)) (j + 1) from by rw [kx_or, kx_td_1 (T := fun a => g (14 + a) 7) (j := j) h21], ← nI_succ]
        exact ih (j + 1) (by omega)
set_option maxRecDepth 100000 in
theorem ev_tiedSet {E : kv_V} {d : Nat} {g : kv_S} {w : kv_W} (hq : kv_qok w) (m : Nat) (hm : m ≤ 8) (hm4 : g 1 4 = nI m) : kv_ev E (d + 1) 21 [.ref 1] (kv_wd g w) (some (.int (kx_or (kx_td (fun a => g (14 + a) 7)) m))) (kv_wd g w) := by
  refine kx_ev (d := d + 0) (by decide) (Nat.le_of_ble_eq_true rfl) ?_
  refine kx_st 0 (pc' := 0) (L' := [some (.ref 1), none, none]) (st' := []) (h' := kv_wd g w) rfl ?_
  refine kx_st 4 (pc' := 4) (L' := [some (.ref 1), some (.int 0), some (.int 0)]) (st' := []) (h' := kv_wd g w) rfl ?_
  exact lp_tiedSet (E := E) (d := d) (g := g) (w := w) hq m hm hm4 ⟨rfl, rfl⟩ m 0 (by omega)
set_option maxRecDepth 100000 in
theorem lp_mtiedSet {E : kv_V} {d : Nat} {g : kv_S} {w : kv_W} (m : Nat) (hm : m ≤ 8) (hm2 : g 66 2 = nI m) {P : Option Value → kv_H → Prop} (hP : P (some (.int (kx_or (fun a => g 66 (26 + 9 * a + 7) <<< (nI a &&& 31)) m))) (kv_wd g w)) : ∀ nz j : Nat, j + nz = m → kx_V E (d + 1) 148 4 [some (.ref 65), some (.int (kx_or (fun a => g 66 (26 + 9 * a + 7) <<< (nI a &&& 31)) j)), some (.int (nI j))] [] (kv_wd g w) P := by
  intro nz
  induction nz with
  | zero =>
    intro j hkk
    have hkN : j = m := by omega
    refine kx_st 4 (pc' := 10) (L' := [some (.ref 65), some (.int (kx_or (fun a => g 66 (26 + 9 * a + 7) <<< (nI a &&& 31)) j)), some (.int (nI j))]) (st' := [.int 2, .ref 66, .int (nI j)]) (h' := kv_wd g w) rfl ?_
    refine kx_ia (k := 2) rfl rfl (by decide) rfl (by decide) (by decide) ?_
    refine kx_bi (t := 32) rfl rfl (fun (h11 : g 66 2 ≤ nI j) => ?_) (fun (h11 : ¬ (g 66 2 ≤ nI j)) => ?_)
    · refine kx_st 1 (pc' := 33) (L' := [some (.ref 65), some (.int (kx_or (fun a => g 66 (26 + 9 * a + 7) <<< (nI a &&& 31)) j)), some (.int (nI j))]) (st' := [.int (kx_or (fun a => g 66 (26 + 9 * a + 7) <<< (nI a &&& 31)) j)]) (h' := kv_wd g w) rfl ?_
      refine kx_ret (v := some (.int (kx_or (fun a => g 66 (26 + 9 * a + 7) <<< (nI a &&& 31)) j))) rfl ?_
      subst hkN
      exact hP
    · exact absurd (by rw [hm2]; exact nI_le (by omega) (by omega)) h11
  | succ nz ih =>
    intro j hkk
    refine kx_st 4 (pc' := 10) (L' := [some (.ref 65), some (.int (kx_or (fun a => g 66 (26 + 9 * a + 7) <<< (nI a &&& 31)) j)), some (.int (nI j))]) (st' := [.int 2, .ref 66, .int (nI j)]) (h' := kv_wd g w) rfl ?_
    refine kx_ia (k := 2) rfl rfl (by decide) rfl (by decide) (by decide) ?_
    refine kx_bi (t := 32) rfl rfl (fun (h11 : g 66 2 ≤ nI j) => ?_) (fun (h11 : ¬ (g 66 2 ≤ nI j)) => ?_)
    · exact absurd h11 (by rw [hm2]; exact nI_ge (a := j) (b := m) (by omega) (by omega))
    · refine kx_st 0 (pc' := 14) (L' := [some (.ref 65), some (.int (kx_or (fun a => g 66 (26 + 9 * a + 7) <<< (nI a &&& 31)) j)), some (.int (nI j))]) (st' := []) (h' := kv_wd g w) rfl ?_
      refine kx_st 4 (pc' := 19) (L' := [some (.ref 65), some (.int (kx_or (fun a => g 66 (26 + 9 * a + 7) <<< (nI a &&& 31)) j)), some (.int (nI j))]) (st' := [.int 7, .int (nI j), .ref 65, .int (kx_or (fun a => g 66 (26 + 9 * a + 7) <<< (nI a &&& 31)) j)]) (h' := kv_wd g w) rfl ?_
      refine kx_call (z := 136) (as := [.ref 65, .int (nI j), .int 7]) (rest := [.int (kx_or (fun a => g 66 (26 + 9 * a + 7) <<< (nI a &&& 31)) j)]) (v := some (.int (g 66 (26 + 9 * j + 7)))) (h1 := kv_wd g w) rfl (ev_its (d := d) j 7 (by omega)) ?_
      refine kx_st 0 (pc' := 22) (L' := [some (.ref 65), some (.int (kx_or (fun a => g 66 (26 + 9 * a + 7) <<< (nI a &&& 31)) j)), some (.int (nI j))]) (st' := [.int (g 66 (26 + 9 * j + 7)), .int (kx_or (fun a => g 66 (26 + 9 * a + 7) <<< (nI a &&& 31)) j)]) (h' := kv_wd g w) rfl ?_
      refine kx_st 6 (pc' := 4) (L' := [some (.ref 65), some (.int ((kx_or (fun a => g 66 (26 + 9 * a + 7) <<< (nI a &&& 31)) j) ||| ((g 66 (26 + 9 * j + 7)) <<< ((nI j) &&& 31)))), some (.int ((nI j) + 1))]) (st' := []) (h' := kv_wd g w) rfl ?_
      rw [← nI_succ]
      exact ih (j + 1) (by omega)
set_option maxRecDepth 100000 in
theorem ev_mtiedSet {E : kv_V} {d : Nat} {g : kv_S} {w : kv_W} (m : Nat) (hm : m ≤ 8) (hm2 : g 66 2 = nI m) : kv_ev E (d + 2) 148 [.ref 65] (kv_wd g w) (some (.int (kx_or (fun a => g 66 (26 + 9 * a + 7) <<< (nI a &&& 31)) m))) (kv_wd g w) := by
  refine kx_ev (d := d + 1) (by decide) (Nat.le_of_ble_eq_true rfl) ?_
  refine kx_st 0 (pc' := 0) (L' := [some (.ref 65), none, none]) (st' := []) (h' := kv_wd g w) rfl ?_
  refine kx_st 4 (pc' := 4) (L' := [some (.ref 65), some (.int 0), some (.int 0)]) (st' := []) (h' := kv_wd g w) rfl ?_
  exact lp_mtiedSet (E := E) (d := d) (g := g) (w := w) m hm hm2 ⟨rfl, rfl⟩ m 0 (by omega)
set_option maxRecDepth 100000 in
theorem lp_thereSet {E : kv_V} {d : Nat} {g : kv_S} {w : kv_W} (s : Nat) (hs : s ≤ 6) (hs3 : g 66 3 = nI s) {P : Option Value → kv_H → Prop} (hP : P (some (.int (kx_or (fun a => g 66 (20 + a) <<< (nI a &&& 31)) s))) (kv_wd g w)) : ∀ nz j : Nat, j + nz = s → kx_V E d 191 4 [some (.ref 65), some (.int (kx_or (fun a => g 66 (20 + a) <<< (nI a &&& 31)) j)), some (.int (nI j))] [] (kv_wd g w) P := by
  intro nz
  induction nz with
  | zero =>
    intro j hkk
    have hkN : j = s := by omega
    refine kx_st 4 (pc' := 10) (L' := [some (.ref 65), some (.int (kx_or (fun a => g 66 (20 + a) <<< (nI a &&& 31)) j)), some (.int (nI j))]) (st' := [.int 3, .ref 66, .int (nI j)]) (h' := kv_wd g w) rfl ?_
    refine kx_ia (k := 3) rfl rfl (by decide) rfl (by decide) (by decide) ?_
    refine kx_bi (t := 34) rfl rfl (fun (h11 : g 66 3 ≤ nI j) => ?_) (fun (h11 : ¬ (g 66 3 ≤ nI j)) => ?_)
    · refine kx_st 1 (pc' := 35) (L' := [some (.ref 65), some (.int (kx_or (fun a => g 66 (20 + a) <<< (nI a &&& 31)) j)), some (.int (nI j))]) (st' := [.int (kx_or (fun a => g 66 (20 + a) <<< (nI a &&& 31)) j)]) (h' := kv_wd g w) rfl ?_
      refine kx_ret (v := some (.int (kx_or (fun a => g 66 (20 + a) <<< (nI a &&& 31)) j))) rfl ?_
      subst hkN
      exact hP
    · exact absurd (by rw [hs3]; exact nI_le (by omega) (by omega)) h11
  | succ nz ih =>
    intro j hkk
    refine kx_st 4 (pc' := 10) (L' := [some (.ref 65), some (.int (kx_or (fun a => g 66 (20 + a) <<< (nI a &&& 31)) j)), some (.int (nI j))]) (st' := [.int 3, .ref 66, .int (nI j)]) (h' := kv_wd g w) rfl ?_
    refine kx_ia (k := 3) rfl rfl (by decide) rfl (by decide) (by decide) ?_
    refine kx_bi (t := 34) rfl rfl (fun (h11 : g 66 3 ≤ nI j) => ?_) (fun (h11 : ¬ (g 66 3 ≤ nI j)) => ?_)
    · exact absurd h11 (by rw [hs3]; exact nI_ge (a := j) (b := s) (by omega) (by omega))
    · refine kx_st 0 (pc' := 14) (L' := [some (.ref 65), some (.int (kx_or (fun a => g 66 (20 + a) <<< (nI a &&& 31)) j)), some (.int (nI j))]) (st' := []) (h' := kv_wd g w) rfl ?_
      refine kx_st 6 (pc' := 23) (L' := [some (.ref 65), some (.int (kx_or (fun a => g 66 (20 + a) <<< (nI a &&& 31)) j)), some (.int (nI j))]) (st' := [.int (20 + (nI j)), .ref 66, .int (kx_or (fun a => g 66 (20 + a) <<< (nI a &&& 31)) j)]) (h' := kv_wd g w) rfl ?_
      refine kx_ia (k := (20 + j)) rfl rfl (by decide) (kx_nadd _ _) (by omega) (by decide) ?_
      refine kx_st 6 (pc' := 4) (L' := [some (.ref 65), some (.int ((kx_or (fun a => g 66 (20 + a) <<< (nI a &&& 31)) j) ||| ((g 66 (20 + j)) <<< ((nI j) &&& 31)))), some (.int ((nI j) + 1))]) (st' := []) (h' := kv_wd g w) rfl ?_
      rw [← nI_succ]
      exact ih (j + 1) (by omega)
theorem kx_ths : ∀ s, s ≤ 6 → ∀ t, t < 64 → t < 2 ^ s → kx_or (fun p => (if t.testBit p = true then 1 else 0) <<< (nI p &&& 31)) s = nI t := by decide +kernel
set_option maxRecDepth 100000 in
theorem ev_thereSet {E : kv_V} {d : Nat} {g : kv_S} {w : kv_W} (s t : Nat) (hs : s ≤ 6) (hs3 : g 66 3 = nI s) (ht : t < 2 ^ s) (hb : ∀ p, p < s → g 66 (20 + p) = if t.testBit p = true then 1 else 0) : kv_ev E (d + 1) 191 [.ref 65] (kv_wd g w) (some (.int (nI t))) (kv_wd g w) := by
  refine kx_ev (d := d + 0) (by decide) (Nat.le_of_ble_eq_true rfl) ?_
  refine kx_st 0 (pc' := 0) (L' := [some (.ref 65), none, none]) (st' := []) (h' := kv_wd g w) rfl ?_
  refine kx_st 4 (pc' := 4) (L' := [some (.ref 65), some (.int 0), some (.int 0)]) (st' := []) (h' := kv_wd g w) rfl ?_
  have h64 : t < 64 := Nat.lt_of_lt_of_le ht (Nat.pow_le_pow_right (by omega) hs)
  have e : kx_or (fun a => g 66 (20 + a) <<< (nI a &&& 31)) s = nI t := by rw [← kx_ths s hs t h64 ht]; exact kx_or_congr (fun p hp => by rw [hb p hp])
  exact lp_thereSet (E := E) (d := d) (g := g) (w := w) s hs hs3 ⟨by rw [e], rfl⟩ s 0 (by omega)
def kx_e0 (y : Int32) : Int32 := if 0 ≤ y then y else 0
def kx_ez (kd m ld bd yr : Int32) : Int32 := kx_e0 (if kd = 1 then 5 + m else if kd = 2 then 10 else if kd = 3 then 5 - m % 5 else if kd = 4 then 5 + m - ld / 10 else if kd = 5 then 10 + yr - bd else if kd = 6 then (if ld ≤ 50 then 5 - m % 5 else 0) else 5)
theorem kx_ez_1 (m ld bd yr : Int32) : kx_ez 1 m ld bd yr = kx_e0 (5 + m) := rfl
theorem kx_ez_2 (m ld bd yr : Int32) : kx_ez 2 m ld bd yr = 10 := rfl
theorem kx_ez_3 (m ld bd yr : Int32) : kx_ez 3 m ld bd yr = kx_e0 (5 - m % 5) := rfl
theorem kx_ez_4 (m ld bd yr : Int32) : kx_ez 4 m ld bd yr = kx_e0 (5 + m - ld / 10) := rfl
theorem kx_ez_5 (m ld bd yr : Int32) : kx_ez 5 m ld bd yr = kx_e0 (10 + yr - bd) := rfl
theorem kx_ez_6 (m ld bd yr : Int32) : kx_ez 6 m ld bd yr = kx_e0 (if ld ≤ 50 then 5 - m % 5 else 0) := rfl
theorem kx_ez_d {kd : Int32} (m ld bd yr : Int32) (h : kd.toInt < 1 ∨ 6 < kd.toInt) : kx_ez kd m ld bd yr = 5 := by
  have f : ∀ c : Int32, 1 ≤ c.toInt → c.toInt ≤ 6 → ¬ kd = c := fun c h1 h2 z => by rw [z] at h; omega
  unfold kx_ez
  rw [if_neg (f 1 (by decide) (by decide)), if_neg (f 2 (by decide) (by decide)), if_neg (f 3 (by decide) (by decide)), if_neg (f 4 (by decide) (by decide)), if_neg (f 5 (by decide) (by decide)), if_neg (f 6 (by decide) (by decide))]
  rfl
theorem kx_e0_p {y : Int32} (h : 0 ≤ y) : kx_e0 y = y := if_pos h
theorem kx_e0_n {y : Int32} (h : ¬ 0 ≤ y) : kx_e0 y = 0 := if_neg h
theorem kx_e0_m (y : Int32) : (if 0 < y then y else 0) = kx_e0 y := by
  unfold kx_e0
  by_cases h : 0 < y
  · rw [if_pos h, if_pos (Int32.le_of_lt h)]
  · rw [if_neg h]
    by_cases h2 : 0 ≤ y
    · rw [if_pos h2]
      rw [Int32.lt_iff_toInt_lt] at h
      rw [Int32.le_iff_toInt_le] at h2
      exact Int32.toInt_inj.mp (by have h3 : (0 : Int32).toInt = 0 := rfl; omega)
    · rw [if_neg h2]
theorem kx_ezm : ∀ x, x ≤ 9 → 0 ≤ 5 + nI x ∧ 0 ≤ 5 - nI x % 5 := by decide +kernel
set_option maxRecDepth 100000 in
theorem ev_ease {E : kv_V} {d : Nat} {g : kv_S} {w : kv_W} (k : Nat) (hk : k < 8) (x : Nat) (hx : x ≤ 9) (hm : g (14 + k) 1 = nI x) (yr : Int32) : kv_ev E (d + 1) 32 [.ref (14 + k), .int yr] (kv_wd g w) (some (.int (kx_ez (g (14 + k) 0) (g (14 + k) 1) (g (14 + k) 8) (g (14 + k) 5) yr))) (kv_wd g w) := by
  refine kx_ev (d := d + 0) (by decide) (Nat.le_of_ble_eq_true rfl) ?_
  refine kx_st 0 (pc' := 0) (L' := [some (.ref (14 + k)), some (.int yr), none, none, none]) (st' := []) (h' := kv_wd g w) rfl ?_
  refine kx_st 2 (pc' := 2) (L' := [some (.ref (14 + k)), some (.int yr), none, none, none]) (st' := [.ref (14 + k), .int 5]) (h' := kv_wd g w) rfl ?_
  refine kx_gf (i := 13) (k := 1) (v := .int (g (14 + k) 1)) rfl rfl (kv_kn_h hk).1 ((kv_kn_h hk).2 _ _) rfl ?_
  refine kx_st 6 (pc' := 12) (L' := [some (.ref (14 + k)), some (.int yr), some (.int (5 + (g (14 + k) 1))), some (.int 10), none]) (st' := [.ref (14 + k), .int 5]) (h' := kv_wd g w) rfl ?_
  refine kx_gf (i := 13) (k := 1) (v := .int (g (14 + k) 1)) rfl rfl (kv_kn_h hk).1 ((kv_kn_h hk).2 _ _) rfl ?_
  refine kx_st 1 (pc' := 16) (L' := [some (.ref (14 + k)), some (.int yr), some (.int (5 + (g (14 + k) 1))), some (.int 10), none]) (st' := [.int 5, .int (g (14 + k) 1), .int 5]) (h' := kv_wd g w) rfl ?_
  refine kx_rm rfl (by decide) ?_
  refine kx_st 3 (pc' := 21) (L' := [some (.ref (14 + k)), some (.int yr), some (.int (5 + (g (14 + k) 1))), some (.int 10), some (.int (5 - ((g (14 + k) 1) % 5)))]) (st' := [.ref (14 + k)]) (h' := kv_wd g w) rfl ?_
  refine kx_gf (i := 7) (k := 0) (v := .int (g (14 + k) 0)) rfl rfl (kv_kn_h hk).1 ((kv_kn_h hk).2 _ _) rfl ?_
  refine kx_ts (td := 114) rfl rfl (fun h24 => ?_) (fun j_ hj_ hx_ => ?_)
  · refine kx_st 1 (pc' := 115) (L' := [some (.ref (14 + k)), some (.int yr), some (.int (5 + (g (14 + k) 1))), some (.int 10), some (.int (5 - ((g (14 + k) 1) % 5)))]) (st' := [.int 5]) (h' := kv_wd g w) rfl ?_
    refine kx_ret (v := some (.int 5)) rfl ?_
    exact ⟨by rw [kx_ez_d _ _ _ _ h24], rfl⟩
  · match j_, hj_, hx_ with
    | 0, _, h24 => 
      have h24 : g (14 + k) 0 = 1 := Int32.toInt_inj.mp (by rw [h24]; rfl)
      refine ⟨_, 64, rfl, rfl, ?_⟩
      refine kx_st 1 (pc' := 65) (L' := [some (.ref (14 + k)), some (.int yr), some (.int (5 + (g (14 + k) 1))), some (.int 10), some (.int (5 - ((g (14 + k) 1) % 5)))]) (st' := [.int (5 + (g (14 + k) 1))]) (h' := kv_wd g w) rfl ?_
      refine kx_ret (v := some (.int (5 + (g (14 + k) 1)))) rfl ?_
      exact ⟨by rw [h24, kx_ez_1, kx_e0_p (by rw [hm]; exact (kx_ezm x hx).1)], rfl⟩
    | 1, _, h24 => 
      have h24 : g (14 + k) 0 = 2 := Int32.toInt_inj.mp (by rw [h24]; rfl)
      refine ⟨_, 66, rfl, rfl, ?_⟩
      refine kx_st 1 (pc' := 67) (L' := [some (.ref (14 + k)), some (.int yr), some (.int (5 + (g (14 + k) 1))), some (.int 10), some (.int (5 - ((g (14 + k) 1) % 5)))]) (st' := [.int 10]) (h' := kv_wd g w) rfl ?_
      refine kx_ret (v := some (.int 10)) rfl ?_
      exact ⟨by rw [h24, kx_ez_2], rfl⟩
    | 2, _, h24 => 
      have h24 : g (14 + k) 0 = 3 := Int32.toInt_inj.mp (by rw [h24]; rfl)
      refine ⟨_, 68, rfl, rfl, ?_⟩
      refine kx_st 1 (pc' := 70) (L' := [some (.ref (14 + k)), some (.int yr), some (.int (5 + (g (14 + k) 1))), some (.int 10), some (.int (5 - ((g (14 + k) 1) % 5)))]) (st' := [.int (5 - ((g (14 + k) 1) % 5))]) (h' := kv_wd g w) rfl ?_
      refine kx_ret (v := some (.int (5 - ((g (14 + k) 1) % 5)))) rfl ?_
      exact ⟨by rw [h24, kx_ez_3, kx_e0_p (by rw [hm]; exact (kx_ezm x hx).2)], rfl⟩
    | 3, _, h24 => 
      have h24 : g (14 + k) 0 = 4 := Int32.toInt_inj.mp (by rw [h24]; rfl)
      refine ⟨_, 71, rfl, rfl, ?_⟩
      refine kx_st 3 (pc' := 74) (L' := [some (.ref (14 + k)), some (.int yr), some (.int (5 + (g (14 + k) 1))), some (.int 10), some (.int (5 - ((g (14 + k) 1) % 5)))]) (st' := [.ref (14 + k), .int (5 + (g (14 + k) 1)), .int 0]) (h' := kv_wd g w) rfl ?_
      refine kx_gf (i := 35) (k := 8) (v := .int (g (14 + k) 8)) rfl rfl (kv_kn_h hk).1 ((kv_kn_h hk).2 _ _) rfl ?_
      refine kx_st 1 (pc' := 79) (L' := [some (.ref (14 + k)), some (.int yr), some (.int (5 + (g (14 + k) 1))), some (.int 10), some (.int (5 - ((g (14 + k) 1) % 5)))]) (st' := [.int 10, .int (g (14 + k) 8), .int (5 + (g (14 + k) 1)), .int 0]) (h' := kv_wd g w) rfl ?_
      refine kx_dv rfl (by decide) ?_
      refine kx_st 2 (pc' := 84) (L' := [some (.ref (14 + k)), some (.int yr), some (.int (5 + (g (14 + k) 1))), some (.int 10), some (.int (5 - ((g (14 + k) 1) % 5)))]) (st' := [.int (if 0 < (5 + (g (14 + k) 1)) - ((g (14 + k) 8) / 10) then (5 + (g (14 + k) 1)) - ((g (14 + k) 8) / 10) else 0)]) (h' := kv_wd g w) rfl ?_
      refine kx_ret (v := some (.int (if 0 < (5 + (g (14 + k) 1)) - ((g (14 + k) 8) / 10) then (5 + (g (14 + k) 1)) - ((g (14 + k) 8) / 10) else 0))) rfl ?_
      exact ⟨by rw [h24, kx_ez_4, ← kx_e0_m], rfl⟩
    | 4, _, h24 => 
      have h24 : g (14 + k) 0 = 5 := Int32.toInt_inj.mp (by rw [h24]; rfl)
      refine ⟨_, 85, rfl, rfl, ?_⟩
      refine kx_st 5 (pc' := 90) (L' := [some (.ref (14 + k)), some (.int yr), some (.int (5 + (g (14 + k) 1))), some (.int 10), some (.int (5 - ((g (14 + k) 1) % 5)))]) (st' := [.ref (14 + k), .int (10 + yr), .int 0]) (h' := kv_wd g w) rfl ?_
      refine kx_gf (i := 25) (k := 5) (v := .int (g (14 + k) 5)) rfl rfl (kv_kn_h hk).1 ((kv_kn_h hk).2 _ _) rfl ?_
      refine kx_st 2 (pc' := 97) (L' := [some (.ref (14 + k)), some (.int yr), some (.int (5 + (g (14 + k) 1))), some (.int 10), some (.int (5 - ((g (14 + k) 1) % 5)))]) (st' := [.int (if 0 < (10 + yr) - (g (14 + k) 5) then (10 + yr) - (g (14 + k) 5) else 0)]) (h' := kv_wd g w) rfl ?_
      refine kx_ret (v := some (.int (if 0 < (10 + yr) - (g (14 + k) 5) then (10 + yr) - (g (14 + k) 5) else 0))) rfl ?_
      exact ⟨by rw [h24, kx_ez_5, ← kx_e0_m], rfl⟩
    | 5, _, h24 => 
      have h24 : g (14 + k) 0 = 6 := Int32.toInt_inj.mp (by rw [h24]; rfl)
      refine ⟨_, 98, rfl, rfl, ?_⟩
      refine kx_st 1 (pc' := 99) (L' := [some (.ref (14 + k)), some (.int yr), some (.int (5 + (g (14 + k) 1))), some (.int 10), some (.int (5 - ((g (14 + k) 1) % 5)))]) (st' := [.ref (14 + k)]) (h' := kv_wd g w) rfl ?_
      refine kx_gf (i := 35) (k := 8) (v := .int (g (14 + k) 8)) rfl rfl (kv_kn_h hk).1 ((kv_kn_h hk).2 _ _) rfl ?_
      refine kx_st 1 (pc' := 104) (L' := [some (.ref (14 + k)), some (.int yr), some (.int (5 + (g (14 + k) 1))), some (.int 10), some (.int (5 - ((g (14 + k) 1) % 5)))]) (st' := [.int 50, .int (g (14 + k) 8)]) (h' := kv_wd g w) rfl ?_
      refine kx_bi (t := 111) rfl rfl (fun (h104 : g (14 + k) 8 ≤ 50) => ?_) (fun (h104 : ¬ (g (14 + k) 8 ≤ 50)) => ?_)
      · refine kx_st 1 (pc' := 113) (L' := [some (.ref (14 + k)), some (.int yr), some (.int (5 + (g (14 + k) 1))), some (.int 10), some (.int (5 - ((g (14 + k) 1) % 5)))]) (st' := [.int (5 - ((g (14 + k) 1) % 5))]) (h' := kv_wd g w) rfl ?_
        refine kx_ret (v := some (.int (5 - ((g (14 + k) 1) % 5)))) rfl ?_
        exact ⟨by rw [h24, kx_ez_6, if_pos h104, kx_e0_p (by rw [hm]; exact (kx_ezm x hx).2)], rfl⟩
      · refine kx_st 0 (pc' := 107) (L' := [some (.ref (14 + k)), some (.int yr), some (.int (5 + (g (14 + k) 1))), some (.int 10), some (.int (5 - ((g (14 + k) 1) % 5)))]) (st' := []) (h' := kv_wd g w) rfl ?_
        refine kx_st 2 (pc' := 113) (L' := [some (.ref (14 + k)), some (.int yr), some (.int (5 + (g (14 + k) 1))), some (.int 10), some (.int (5 - ((g (14 + k) 1) % 5)))]) (st' := [.int 0]) (h' := kv_wd g w) rfl ?_
        refine kx_ret (v := some (.int 0)) rfl ?_
        exact ⟨by rw [h24, kx_ez_6, if_neg h104, kx_e0_p (by decide)], rfl⟩
set_option maxRecDepth 100000 in
theorem ev_mease {E : kv_V} {d : Nat} {g : kv_S} {w : kv_W} (k : Nat) (hk : k < 8) : kv_ev E (d + 2) 171 [.ref 65, .int (nI k)] (kv_wd g w) (some (.int (kx_ez (g 66 (26 + 9 * k + 0)) (g 66 (26 + 9 * k + 1)) (g 66 (26 + 9 * k + 8)) (g 66 (26 + 9 * k + 5)) (g 66 0)))) (kv_wd g w) := by
  refine kx_ev (d := d + 1) (by decide) (Nat.le_of_ble_eq_true rfl) ?_
  refine kx_st 0 (pc' := 0) (L' := [some (.ref 65), some (.int (nI k)), none, none]) (st' := []) (h' := kv_wd g w) rfl ?_
  refine kx_st 3 (pc' := 3) (L' := [some (.ref 65), some (.int (nI k)), none, none]) (st' := [.int 1, .int (nI k), .ref 65]) (h' := kv_wd g w) rfl ?_
  refine kx_call (z := 136) (as := [.ref 65, .int (nI k), .int 1]) (rest := []) (v := some (.int (g 66 (26 + 9 * k + 1)))) (h1 := kv_wd g w) rfl (ev_its (d := d) k 1 (by omega)) ?_
  refine kx_st 0 (pc' := 6) (L' := [some (.ref 65), some (.int (nI k)), none, none]) (st' := [.int (g 66 (26 + 9 * k + 1))]) (h' := kv_wd g w) rfl ?_
  refine kx_st 6 (pc' := 12) (L' := [some (.ref 65), some (.int (nI k)), some (.int (g 66 (26 + 9 * k + 1))), some (.int 5)]) (st' := [.int 0, .int (nI k), .ref 65]) (h' := kv_wd g w) rfl ?_
  refine kx_call (z := 136) (as := [.ref 65, .int (nI k), .int 0]) (rest := []) (v := some (.int (g 66 (26 + 9 * k + 0)))) (h1 := kv_wd g w) rfl (ev_its (d := d) k 0 (by omega)) ?_
  refine kx_st 0 (pc' := 15) (L' := [some (.ref 65), some (.int (nI k)), some (.int (g 66 (26 + 9 * k + 1))), some (.int 5)]) (st' := [.int (g 66 (26 + 9 * k + 0))]) (h' := kv_wd g w) rfl ?_
  refine kx_ts (td := 137) rfl rfl (fun h15 => ?_) (fun j_ hj_ hx_ => ?_)
  · refine kx_st 1 (pc' := 138) (L' := [some (.ref 65), some (.int (nI k)), some (.int (g 66 (26 + 9 * k + 1))), some (.int 5)]) (st' := [.int 5]) (h' := kv_wd g w) rfl ?_
    refine kx_st 1 (pc' := 145) (L' := [some (.ref 65), some (.int (nI k)), some (.int (g 66 (26 + 9 * k + 1))), some (.int 5)]) (st' := []) (h' := kv_wd g w) rfl ?_
    refine kx_st 1 (pc' := 146) (L' := [some (.ref 65), some (.int (nI k)), some (.int (g 66 (26 + 9 * k + 1))), some (.int 5)]) (st' := [.int 5]) (h' := kv_wd g w) rfl ?_
    refine kx_ret (v := some (.int 5)) rfl ?_
    exact ⟨by rw [kx_ez_d _ _ _ _ h15], rfl⟩
  · match j_, hj_, hx_ with
    | 0, _, h15 => 
      have h15 : g 66 (26 + 9 * k + 0) = 1 := Int32.toInt_inj.mp (by rw [h15]; rfl)
      refine ⟨_, 52, rfl, rfl, ?_⟩
      refine kx_st 6 (pc' := 138) (L' := [some (.ref 65), some (.int (nI k)), some (.int (g 66 (26 + 9 * k + 1))), some (.int (5 + (g 66 (26 + 9 * k + 1))))]) (st' := [.int (5 + (g 66 (26 + 9 * k + 1)))]) (h' := kv_wd g w) rfl ?_
      refine kx_bc (t := 145) rfl rfl (fun (h138 : 0 ≤ 5 + (g 66 (26 + 9 * k + 1))) => ?_) (fun (h138 : ¬ (0 ≤ 5 + (g 66 (26 + 9 * k + 1)))) => ?_)
      · refine kx_st 1 (pc' := 146) (L' := [some (.ref 65), some (.int (nI k)), some (.int (g 66 (26 + 9 * k + 1))), some (.int (5 + (g 66 (26 + 9 * k + 1))))]) (st' := [.int (5 + (g 66 (26 + 9 * k + 1)))]) (h' := kv_wd g w) rfl ?_
        refine kx_ret (v := some (.int (5 + (g 66 (26 + 9 * k + 1))))) rfl ?_
        exact ⟨by rw [h15, kx_ez_1, kx_e0_p h138], rfl⟩
      · refine kx_st 0 (pc' := 141) (L' := [some (.ref 65), some (.int (nI k)), some (.int (g 66 (26 + 9 * k + 1))), some (.int (5 + (g 66 (26 + 9 * k + 1))))]) (st' := []) (h' := kv_wd g w) rfl ?_
        refine kx_st 2 (pc' := 146) (L' := [some (.ref 65), some (.int (nI k)), some (.int (g 66 (26 + 9 * k + 1))), some (.int (5 + (g 66 (26 + 9 * k + 1))))]) (st' := [.int 0]) (h' := kv_wd g w) rfl ?_
        refine kx_ret (v := some (.int 0)) rfl ?_
        exact ⟨by rw [h15, kx_ez_1, kx_e0_n h138], rfl⟩
    | 1, _, h15 => 
      have h15 : g 66 (26 + 9 * k + 0) = 2 := Int32.toInt_inj.mp (by rw [h15]; rfl)
      refine ⟨_, 77, rfl, rfl, ?_⟩
      refine kx_st 4 (pc' := 138) (L' := [some (.ref 65), some (.int (nI k)), some (.int (g 66 (26 + 9 * k + 1))), some (.int 10)]) (st' := [.int 10]) (h' := kv_wd g w) rfl ?_
      refine kx_st 1 (pc' := 145) (L' := [some (.ref 65), some (.int (nI k)), some (.int (g 66 (26 + 9 * k + 1))), some (.int 10)]) (st' := []) (h' := kv_wd g w) rfl ?_
      refine kx_st 1 (pc' := 146) (L' := [some (.ref 65), some (.int (nI k)), some (.int (g 66 (26 + 9 * k + 1))), some (.int 10)]) (st' := [.int 10]) (h' := kv_wd g w) rfl ?_
      refine kx_ret (v := some (.int 10)) rfl ?_
      exact ⟨by rw [h15, kx_ez_2], rfl⟩
    | 2, _, h15 => 
      have h15 : g 66 (26 + 9 * k + 0) = 3 := Int32.toInt_inj.mp (by rw [h15]; rfl)
      refine ⟨_, 103, rfl, rfl, ?_⟩
      refine kx_st 3 (pc' := 106) (L' := [some (.ref 65), some (.int (nI k)), some (.int (g 66 (26 + 9 * k + 1))), some (.int 5)]) (st' := [.int 5, .int (g 66 (26 + 9 * k + 1)), .int 5]) (h' := kv_wd g w) rfl ?_
      refine kx_rm rfl (by decide) ?_
      refine kx_st 4 (pc' := 138) (L' := [some (.ref 65), some (.int (nI k)), some (.int (g 66 (26 + 9 * k + 1))), some (.int (5 - ((g 66 (26 + 9 * k + 1)) % 5)))]) (st' := [.int (5 - ((g 66 (26 + 9 * k + 1)) % 5))]) (h' := kv_wd g w) rfl ?_
      refine kx_bc (t := 145) rfl rfl (fun (h138 : 0 ≤ 5 - ((g 66 (26 + 9 * k + 1)) % 5)) => ?_) (fun (h138 : ¬ (0 ≤ 5 - ((g 66 (26 + 9 * k + 1)) % 5))) => ?_)
      · refine kx_st 1 (pc' := 146) (L' := [some (.ref 65), some (.int (nI k)), some (.int (g 66 (26 + 9 * k + 1))), some (.int (5 - ((g 66 (26 + 9 * k + 1)) % 5)))]) (st' := [.int (5 - ((g 66 (26 + 9 * k + 1)) % 5))]) (h' := kv_wd g w) rfl ?_
        refine kx_ret (v := some (.int (5 - ((g 66 (26 + 9 * k + 1)) % 5)))) rfl ?_
        exact ⟨by rw [h15, kx_ez_3, kx_e0_p h138], rfl⟩
      · refine kx_st 0 (pc' := 141) (L' := [some (.ref 65), some (.int (nI k)), some (.int (g 66 (26 + 9 * k + 1))), some (.int (5 - ((g 66 (26 + 9 * k + 1)) % 5)))]) (st' := []) (h' := kv_wd g w) rfl ?_
        refine kx_st 2 (pc' := 146) (L' := [some (.ref 65), some (.int (nI k)), some (.int (g 66 (26 + 9 * k + 1))), some (.int (5 - ((g 66 (26 + 9 * k + 1)) % 5)))]) (st' := [.int 0]) (h' := kv_wd g w) rfl ?_
        refine kx_ret (v := some (.int 0)) rfl ?_
        exact ⟨by rw [h15, kx_ez_3, kx_e0_n h138], rfl⟩
    | 3, _, h15 => 
      have h15 : g 66 (26 + 9 * k + 0) = 4 := Int32.toInt_inj.mp (by rw [h15]; rfl)
      refine ⟨_, 59, rfl, rfl, ?_⟩
      refine kx_st 6 (pc' := 66) (L' := [some (.ref 65), some (.int (nI k)), some (.int (g 66 (26 + 9 * k + 1))), some (.int 5)]) (st' := [.int 8, .int (nI k), .ref 65, .int (5 + (g 66 (26 + 9 * k + 1)))]) (h' := kv_wd g w) rfl ?_
      refine kx_call (z := 136) (as := [.ref 65, .int (nI k), .int 8]) (rest := [.int (5 + (g 66 (26 + 9 * k + 1)))]) (v := some (.int (g 66 (26 + 9 * k + 8)))) (h1 := kv_wd g w) rfl (ev_its (d := d) k 8 (by omega)) ?_
      refine kx_st 0 (pc' := 69) (L' := [some (.ref 65), some (.int (nI k)), some (.int (g 66 (26 + 9 * k + 1))), some (.int 5)]) (st' := [.int (g 66 (26 + 9 * k + 8)), .int (5 + (g 66 (26 + 9 * k + 1)))]) (h' := kv_wd g w) rfl ?_
      refine kx_st 1 (pc' := 71) (L' := [some (.ref 65), some (.int (nI k)), some (.int (g 66 (26 + 9 * k + 1))), some (.int 5)]) (st' := [.int 10, .int (g 66 (26 + 9 * k + 8)), .int (5 + (g 66 (26 + 9 * k + 1)))]) (h' := kv_wd g w) rfl ?_
      refine kx_dv rfl (by decide) ?_
      refine kx_st 4 (pc' := 138) (L' := [some (.ref 65), some (.int (nI k)), some (.int (g 66 (26 + 9 * k + 1))), some (.int ((5 + (g 66 (26 + 9 * k + 1))) - ((g 66 (26 + 9 * k + 8)) / 10)))]) (st' := [.int ((5 + (g 66 (26 + 9 * k + 1))) - ((g 66 (26 + 9 * k + 8)) / 10))]) (h' := kv_wd g w) rfl ?_
      refine kx_bc (t := 145) rfl rfl (fun (h138 : 0 ≤ (5 + (g 66 (26 + 9 * k + 1))) - ((g 66 (26 + 9 * k + 8)) / 10)) => ?_) (fun (h138 : ¬ (0 ≤ (5 + (g 66 (26 + 9 * k + 1))) - ((g 66 (26 + 9 * k + 8)) / 10))) => ?_)
      · refine kx_st 1 (pc' := 146) (L' := [some (.ref 65), some (.int (nI k)), some (.int (g 66 (26 + 9 * k + 1))), some (.int ((5 + (g 66 (26 + 9 * k + 1))) - ((g 66 (26 + 9 * k + 8)) / 10)))]) (st' := [.int ((5 + (g 66 (26 + 9 * k + 1))) - ((g 66 (26 + 9 * k + 8)) / 10))]) (h' := kv_wd g w) rfl ?_
        refine kx_ret (v := some (.int ((5 + (g 66 (26 + 9 * k + 1))) - ((g 66 (26 + 9 * k + 8)) / 10)))) rfl ?_
        exact ⟨by rw [h15, kx_ez_4, kx_e0_p h138], rfl⟩
      · refine kx_st 0 (pc' := 141) (L' := [some (.ref 65), some (.int (nI k)), some (.int (g 66 (26 + 9 * k + 1))), some (.int ((5 + (g 66 (26 + 9 * k + 1))) - ((g 66 (26 + 9 * k + 8)) / 10)))]) (st' := []) (h' := kv_wd g w) rfl ?_
        refine kx_st 2 (pc' := 146) (L' := [some (.ref 65), some (.int (nI k)), some (.int (g 66 (26 + 9 * k + 1))), some (.int ((5 + (g 66 (26 + 9 * k + 1))) - ((g 66 (26 + 9 * k + 8)) / 10)))]) (st' := [.int 0]) (h' := kv_wd g w) rfl ?_
        refine kx_ret (v := some (.int 0)) rfl ?_
        exact ⟨by rw [h15, kx_ez_4, kx_e0_n h138], rfl⟩
    | 4, _, h15 => 
      have h15 : g 66 (26 + 9 * k + 0) = 5 := Int32.toInt_inj.mp (by rw [h15]; rfl)
      refine ⟨_, 83, rfl, rfl, ?_⟩
      refine kx_st 4 (pc' := 90) (L' := [some (.ref 65), some (.int (nI k)), some (.int (g 66 (26 + 9 * k + 1))), some (.int 5)]) (st' := [.int 0, .ref 66, .int 10]) (h' := kv_wd g w) rfl ?_
      refine kx_ia (k := 0) rfl rfl (by decide) rfl (by decide) (by decide) ?_
      refine kx_st 4 (pc' := 95) (L' := [some (.ref 65), some (.int (nI k)), some (.int (g 66 (26 + 9 * k + 1))), some (.int 5)]) (st' := [.int 5, .int (nI k), .ref 65, .int (10 + (g 66 0))]) (h' := kv_wd g w) rfl ?_
      refine kx_call (z := 136) (as := [.ref 65, .int (nI k), .int 5]) (rest := [.int (10 + (g 66 0))]) (v := some (.int (g 66 (26 + 9 * k + 5)))) (h1 := kv_wd g w) rfl (ev_its (d := d) k 5 (by omega)) ?_
      refine kx_st 0 (pc' := 98) (L' := [some (.ref 65), some (.int (nI k)), some (.int (g 66 (26 + 9 * k + 1))), some (.int 5)]) (st' := [.int (g 66 (26 + 9 * k + 5)), .int (10 + (g 66 0))]) (h' := kv_wd g w) rfl ?_
      refine kx_st 4 (pc' := 138) (L' := [some (.ref 65), some (.int (nI k)), some (.int (g 66 (26 + 9 * k + 1))), some (.int ((10 + (g 66 0)) - (g 66 (26 + 9 * k + 5))))]) (st' := [.int ((10 + (g 66 0)) - (g 66 (26 + 9 * k + 5)))]) (h' := kv_wd g w) rfl ?_
      refine kx_bc (t := 145) rfl rfl (fun (h138 : 0 ≤ (10 + (g 66 0)) - (g 66 (26 + 9 * k + 5))) => ?_) (fun (h138 : ¬ (0 ≤ (10 + (g 66 0)) - (g 66 (26 + 9 * k + 5)))) => ?_)
      · refine kx_st 1 (pc' := 146) (L' := [some (.ref 65), some (.int (nI k)), some (.int (g 66 (26 + 9 * k + 1))), some (.int ((10 + (g 66 0)) - (g 66 (26 + 9 * k + 5))))]) (st' := [.int ((10 + (g 66 0)) - (g 66 (26 + 9 * k + 5)))]) (h' := kv_wd g w) rfl ?_
        refine kx_ret (v := some (.int ((10 + (g 66 0)) - (g 66 (26 + 9 * k + 5))))) rfl ?_
        exact ⟨by rw [h15, kx_ez_5, kx_e0_p h138], rfl⟩
      · refine kx_st 0 (pc' := 141) (L' := [some (.ref 65), some (.int (nI k)), some (.int (g 66 (26 + 9 * k + 1))), some (.int ((10 + (g 66 0)) - (g 66 (26 + 9 * k + 5))))]) (st' := []) (h' := kv_wd g w) rfl ?_
        refine kx_st 2 (pc' := 146) (L' := [some (.ref 65), some (.int (nI k)), some (.int (g 66 (26 + 9 * k + 1))), some (.int ((10 + (g 66 0)) - (g 66 (26 + 9 * k + 5))))]) (st' := [.int 0]) (h' := kv_wd g w) rfl ?_
        refine kx_ret (v := some (.int 0)) rfl ?_
        exact ⟨by rw [h15, kx_ez_5, kx_e0_n h138], rfl⟩
    | 5, _, h15 => 
      have h15 : g 66 (26 + 9 * k + 0) = 6 := Int32.toInt_inj.mp (by rw [h15]; rfl)
      refine ⟨_, 112, rfl, rfl, ?_⟩
      refine kx_st 3 (pc' := 116) (L' := [some (.ref 65), some (.int (nI k)), some (.int (g 66 (26 + 9 * k + 1))), some (.int 5)]) (st' := [.int 8, .int (nI k), .ref 65]) (h' := kv_wd g w) rfl ?_
      refine kx_call (z := 136) (as := [.ref 65, .int (nI k), .int 8]) (rest := []) (v := some (.int (g 66 (26 + 9 * k + 8)))) (h1 := kv_wd g w) rfl (ev_its (d := d) k 8 (by omega)) ?_
      refine kx_st 0 (pc' := 119) (L' := [some (.ref 65), some (.int (nI k)), some (.int (g 66 (26 + 9 * k + 1))), some (.int 5)]) (st' := [.int (g 66 (26 + 9 * k + 8))]) (h' := kv_wd g w) rfl ?_
      refine kx_st 1 (pc' := 121) (L' := [some (.ref 65), some (.int (nI k)), some (.int (g 66 (26 + 9 * k + 1))), some (.int 5)]) (st' := [.int 50, .int (g 66 (26 + 9 * k + 8))]) (h' := kv_wd g w) rfl ?_
      refine kx_bi (t := 128) rfl rfl (fun (h121 : g 66 (26 + 9 * k + 8) ≤ 50) => ?_) (fun (h121 : ¬ (g 66 (26 + 9 * k + 8) ≤ 50)) => ?_)
      · refine kx_st 3 (pc' := 131) (L' := [some (.ref 65), some (.int (nI k)), some (.int (g 66 (26 + 9 * k + 1))), some (.int 5)]) (st' := [.int 5, .int (g 66 (26 + 9 * k + 1)), .int 5]) (h' := kv_wd g w) rfl ?_
        refine kx_rm rfl (by decide) ?_
        refine kx_st 4 (pc' := 138) (L' := [some (.ref 65), some (.int (nI k)), some (.int (g 66 (26 + 9 * k + 1))), some (.int (5 - ((g 66 (26 + 9 * k + 1)) % 5)))]) (st' := [.int (5 - ((g 66 (26 + 9 * k + 1)) % 5))]) (h' := kv_wd g w) rfl ?_
        refine kx_bc (t := 145) rfl rfl (fun (h138 : 0 ≤ 5 - ((g 66 (26 + 9 * k + 1)) % 5)) => ?_) (fun (h138 : ¬ (0 ≤ 5 - ((g 66 (26 + 9 * k + 1)) % 5))) => ?_)
        · refine kx_st 1 (pc' := 146) (L' := [some (.ref 65), some (.int (nI k)), some (.int (g 66 (26 + 9 * k + 1))), some (.int (5 - ((g 66 (26 + 9 * k + 1)) % 5)))]) (st' := [.int (5 - ((g 66 (26 + 9 * k + 1)) % 5))]) (h' := kv_wd g w) rfl ?_
          refine kx_ret (v := some (.int (5 - ((g 66 (26 + 9 * k + 1)) % 5)))) rfl ?_
          exact ⟨by rw [h15, kx_ez_6, if_pos h121, kx_e0_p h138], rfl⟩
        · refine kx_st 0 (pc' := 141) (L' := [some (.ref 65), some (.int (nI k)), some (.int (g 66 (26 + 9 * k + 1))), some (.int (5 - ((g 66 (26 + 9 * k + 1)) % 5)))]) (st' := []) (h' := kv_wd g w) rfl ?_
          refine kx_st 2 (pc' := 146) (L' := [some (.ref 65), some (.int (nI k)), some (.int (g 66 (26 + 9 * k + 1))), some (.int (5 - ((g 66 (26 + 9 * k + 1)) % 5)))]) (st' := [.int 0]) (h' := kv_wd g w) rfl ?_
          refine kx_ret (v := some (.int 0)) rfl ?_
          exact ⟨by rw [h15, kx_ez_6, if_pos h121, kx_e0_n h138], rfl⟩
      · refine kx_st 0 (pc' := 124) (L' := [some (.ref 65), some (.int (nI k)), some (.int (g 66 (26 + 9 * k + 1))), some (.int 5)]) (st' := []) (h' := kv_wd g w) rfl ?_
        refine kx_st 5 (pc' := 138) (L' := [some (.ref 65), some (.int (nI k)), some (.int (g 66 (26 + 9 * k + 1))), some (.int 0)]) (st' := [.int 0]) (h' := kv_wd g w) rfl ?_
        refine kx_st 1 (pc' := 145) (L' := [some (.ref 65), some (.int (nI k)), some (.int (g 66 (26 + 9 * k + 1))), some (.int 0)]) (st' := []) (h' := kv_wd g w) rfl ?_
        refine kx_st 1 (pc' := 146) (L' := [some (.ref 65), some (.int (nI k)), some (.int (g 66 (26 + 9 * k + 1))), some (.int 0)]) (st' := [.int 0]) (h' := kv_wd g w) rfl ?_
        refine kx_ret (v := some (.int 0)) rfl ?_
        exact ⟨by rw [h15, kx_ez_6, if_neg h121, kx_e0_p (by decide)], rfl⟩
section KP12
variable {E : kv_V} {lr : kx_LR}
theorem kx_td_eq {T R : Nat → Int32} {m : Nat} (h : ∀ j, j < m → T j = R j ∧ (R j = 0 ∨ R j = 1)) : kx_or (kx_td T) m = kx_or (fun a => R a <<< (nI a &&& 31)) m := by
  refine kx_or_congr (fun j hj => ?_)
  obtain ⟨h1, h2⟩ := h j hj
  rcases h2 with h2 | h2
  · rw [kx_td_0 (by rw [h1, h2]), h2]; simp
  · rw [kx_td_1 (by rw [h1, h2]; decide), h2]
theorem kx_knf {lr : kx_LR} {g : kv_S} {s m : Nat} (hk : ∀ k, k < m → kx_K s k (kx_kn g k) (fun c => g 66 (26 + 9 * k + c))) (m8 : m ≤ 8) {k c : Nat} (hkm : k < m) (hc : c < 9) : g (14 + k) c = g 66 (26 + 9 * k + c) := by
  have := (hk k hkm).1 c hc
  rw [kx_kn_at (by omega)] at this
  exact this
set_option maxRecDepth 100000 in
theorem pr_count (a : Int32) : kx_ok2 E (kx_Rl lr) 121 220 [.int a] := by
  intro g w i hR hi
  have hR0 := hR
  obtain ⟨q, cu, ⟨H1, H2, H3, H4, H5, hz, l0, l1⟩, im, sh, tr, er⟩ := id hR
  obtain ⟨s, t, m, ⟨a1, a2, a3, a4⟩, ⟨b1, b2⟩, ⟨c1, c2⟩, ⟨d1, d2⟩, hk⟩ := id H1
  by_cases hv : 0 ≤ a ∧ a ≤ 9
  · obtain ⟨n, hn, rfl⟩ := kx_nIof (n := 9) hv.1 hv.2 (by omega)
    rcases (show n = 0 ∨ n = 1 ∨ n = 2 ∨ n = 3 ∨ n = 4 ∨ n = 5 ∨ n = 6 ∨ n = 7 ∨ n = 8 ∨ n = 9 by omega) with rfl | rfl | rfl | rfl | rfl | rfl | rfl | rfl | rfl | rfl
    · refine kx_two (by decide) (Nat.le_of_ble_eq_true rfl) (by decide) (Nat.le_of_ble_eq_true rfl) ?_
      refine kx_st 0 (pc' := 0) (L' := [some (.ref 0), some (.int 0)]) (st' := []) (h' := kv_wd g w) rfl ?_
      refine kx_st 5 (pc' := 63) (L' := [some (.ref 0), some (.int 0)]) (st' := [.int (g 1 0)]) (h' := kv_wd g w) rfl ?_
      refine kx_ret (v := some (.int (g 1 0))) rfl ?_
      refine ⟨_, _, _, rfl, rfl, ?_⟩
      refine kx_st 0 (pc' := 0) (L' := [some (.ref 65), some (.int 0)]) (st' := []) (h' := kv_wd g w) rfl ?_
      refine kx_st 5 (pc' := 61) (L' := [some (.ref 65), some (.int 0)]) (st' := [.int 3, .ref 66]) (h' := kv_wd g w) rfl ?_
      refine kx_ia (k := 3) rfl rfl (by decide) rfl (by decide) (by decide) ?_
      refine kx_ret (v := some (.int (g 66 3))) rfl ?_
      exact ⟨congrArg (fun z => some (Value.int z)) (b2.trans b1.symm), _, _, rfl, kx_Rl_skip lr g w i hR⟩
    · refine kx_two (by decide) (Nat.le_of_ble_eq_true rfl) (by decide) (Nat.le_of_ble_eq_true rfl) ?_
      refine kx_st 0 (pc' := 0) (L' := [some (.ref 0), some (.int 1)]) (st' := []) (h' := kv_wd g w) rfl ?_
      refine kx_st 5 (pc' := 71) (L' := [some (.ref 0), some (.int 1)]) (st' := [.int (g 1 4)]) (h' := kv_wd g w) rfl ?_
      refine kx_ret (v := some (.int (g 1 4))) rfl ?_
      refine ⟨_, _, _, rfl, rfl, ?_⟩
      refine kx_st 0 (pc' := 0) (L' := [some (.ref 65), some (.int 1)]) (st' := []) (h' := kv_wd g w) rfl ?_
      refine kx_st 5 (pc' := 68) (L' := [some (.ref 65), some (.int 1)]) (st' := [.int 2, .ref 66]) (h' := kv_wd g w) rfl ?_
      refine kx_ia (k := 2) rfl rfl (by decide) rfl (by decide) (by decide) ?_
      refine kx_ret (v := some (.int (g 66 2))) rfl ?_
      exact ⟨congrArg (fun z => some (Value.int z)) (d2.trans d1.symm), _, _, rfl, kx_Rl_skip lr g w i hR⟩
    · refine kx_two (by decide) (Nat.le_of_ble_eq_true rfl) (by decide) (Nat.le_of_ble_eq_true rfl) ?_
      refine kx_st 0 (pc' := 0) (L' := [some (.ref 0), some (.int 2)]) (st' := []) (h' := kv_wd g w) rfl ?_
      refine kx_st 6 (pc' := 82) (L' := [some (.ref 0), some (.int 2)]) (st' := [.int (g 2 2)]) (h' := kv_wd g w) rfl ?_
      refine kx_ret (v := some (.int (g 2 2))) rfl ?_
      refine ⟨_, _, _, rfl, rfl, ?_⟩
      refine kx_st 0 (pc' := 0) (L' := [some (.ref 65), some (.int 2)]) (st' := []) (h' := kv_wd g w) rfl ?_
      refine kx_st 5 (pc' := 75) (L' := [some (.ref 65), some (.int 2)]) (st' := [.int 0, .ref 66]) (h' := kv_wd g w) rfl ?_
      refine kx_ia (k := 0) rfl rfl (by decide) rfl (by decide) (by decide) ?_
      refine kx_ret (v := some (.int (g 66 0))) rfl ?_
      exact ⟨congrArg (fun z => some (Value.int z)) ((by obtain ⟨y, -, y1, y2⟩ := H3; exact y2.trans y1.symm)), _, _, rfl, kx_Rl_skip lr g w i hR⟩
    · refine kx_two (by decide) (Nat.le_of_ble_eq_true rfl) (by decide) (Nat.le_of_ble_eq_true rfl) ?_
      refine kx_st 0 (pc' := 0) (L' := [some (.ref 0), some (.int 3)]) (st' := []) (h' := kv_wd g w) rfl ?_
      refine kx_st 8 (pc' := 97) (L' := [some (.ref 0), some (.int 3)]) (st' := [.int (g 1 0), .ref 2]) (h' := kv_wd g w) rfl ?_
      refine kx_call (z := 6) (as := [.ref 2, .int (g 1 0)]) (rest := []) (v := some (.int (kx_sum (fun j => g 3 j + g 4 j) s))) (h1 := kv_wd g w) rfl (by rw [b1]; exact ev_together (d := 898) kv_hd2 s a2) ?_
      refine kx_st 0 (pc' := 100) (L' := [some (.ref 0), some (.int 3)]) (st' := [.int (kx_sum (fun j => g 3 j + g 4 j) s)]) (h' := kv_wd g w) rfl ?_
      refine kx_ret (v := some (.int (kx_sum (fun j => g 3 j + g 4 j) s))) rfl ?_
      refine ⟨_, _, _, rfl, rfl, ?_⟩
      refine kx_st 0 (pc' := 0) (L' := [some (.ref 65), some (.int 3)]) (st' := []) (h' := kv_wd g w) rfl ?_
      refine kx_st 3 (pc' := 78) (L' := [some (.ref 65), some (.int 3)]) (st' := [.ref 65]) (h' := kv_wd g w) rfl ?_
      refine kx_call (z := 180) (as := [.ref 65]) (rest := []) (v := some (.int (kx_sum (fun j => g 66 (8 + j) + g 66 (14 + j)) s))) (h1 := kv_wd g w) rfl (ev_hands (d := 897) s a2 b2) ?_
      refine kx_st 0 (pc' := 81) (L' := [some (.ref 65), some (.int 3)]) (st' := [.int (kx_sum (fun j => g 66 (8 + j) + g 66 (14 + j)) s)]) (h' := kv_wd g w) rfl ?_
      refine kx_ret (v := some (.int (kx_sum (fun j => g 66 (8 + j) + g 66 (14 + j)) s))) rfl ?_
      exact ⟨congrArg (fun z => some (Value.int z)) (show kx_sum (fun j => g 66 (8 + j) + g 66 (14 + j)) s = kx_sum (fun j => g 3 j + g 4 j) s from kx_sum_congr (fun j hj => by rw [(H2 j (by omega)).1.1, (H2 j (by omega)).1.2])), _, _, rfl, kx_Rl_skip lr g w i hR⟩
    · refine kx_two (by decide) (Nat.le_of_ble_eq_true rfl) (by decide) (Nat.le_of_ble_eq_true rfl) ?_
      refine kx_st 0 (pc' := 0) (L' := [some (.ref 0), some (.int 4)]) (st' := []) (h' := kv_wd g w) rfl ?_
      refine kx_st 5 (pc' := 108) (L' := [some (.ref 0), some (.int 4)]) (st' := [.int (g 1 1)]) (h' := kv_wd g w) rfl ?_
      refine kx_ret (v := some (.int (g 1 1))) rfl ?_
      refine ⟨_, _, _, rfl, rfl, ?_⟩
      refine kx_st 0 (pc' := 0) (L' := [some (.ref 65), some (.int 4)]) (st' := []) (h' := kv_wd g w) rfl ?_
      refine kx_st 3 (pc' := 83) (L' := [some (.ref 65), some (.int 4)]) (st' := [.ref 65]) (h' := kv_wd g w) rfl ?_
      refine kx_call (z := 191) (as := [.ref 65]) (rest := []) (v := some (.int (nI t))) (h1 := kv_wd g w) rfl (ev_thereSet (d := 898) s t a2 b2 a3 c2) ?_
      refine kx_st 0 (pc' := 86) (L' := [some (.ref 65), some (.int 4)]) (st' := [.int (nI t)]) (h' := kv_wd g w) rfl ?_
      refine kx_ret (v := some (.int (nI t))) rfl ?_
      exact ⟨congrArg (fun z => some (Value.int z)) (c1.symm), _, _, rfl, kx_Rl_skip lr g w i hR⟩
    · refine kx_two (by decide) (Nat.le_of_ble_eq_true rfl) (by decide) (Nat.le_of_ble_eq_true rfl) ?_
      refine kx_st 0 (pc' := 0) (L' := [some (.ref 0), some (.int 5)]) (st' := []) (h' := kv_wd g w) rfl ?_
      refine kx_st 4 (pc' := 113) (L' := [some (.ref 0), some (.int 5)]) (st' := [.ref 1]) (h' := kv_wd g w) rfl ?_
      refine kx_call (z := 21) (as := [.ref 1]) (rest := []) (v := some (.int (kx_or (kx_td (fun a => g (14 + a) 7)) m))) (h1 := kv_wd g w) rfl (ev_tiedSet (d := 898) q m a4 d1) ?_
      refine kx_st 0 (pc' := 116) (L' := [some (.ref 0), some (.int 5)]) (st' := [.int (kx_or (kx_td (fun a => g (14 + a) 7)) m)]) (h' := kv_wd g w) rfl ?_
      refine kx_ret (v := some (.int (kx_or (kx_td (fun a => g (14 + a) 7)) m))) rfl ?_
      refine ⟨_, _, _, rfl, rfl, ?_⟩
      refine kx_st 0 (pc' := 0) (L' := [some (.ref 65), some (.int 5)]) (st' := []) (h' := kv_wd g w) rfl ?_
      refine kx_st 3 (pc' := 88) (L' := [some (.ref 65), some (.int 5)]) (st' := [.ref 65]) (h' := kv_wd g w) rfl ?_
      refine kx_call (z := 148) (as := [.ref 65]) (rest := []) (v := some (.int (kx_or (fun a => g 66 (26 + 9 * a + 7) <<< (nI a &&& 31)) m))) (h1 := kv_wd g w) rfl (ev_mtiedSet (d := 897) m a4 d2) ?_
      refine kx_st 0 (pc' := 91) (L' := [some (.ref 65), some (.int 5)]) (st' := [.int (kx_or (fun a => g 66 (26 + 9 * a + 7) <<< (nI a &&& 31)) m)]) (h' := kv_wd g w) rfl ?_
      refine kx_ret (v := some (.int (kx_or (fun a => g 66 (26 + 9 * a + 7) <<< (nI a &&& 31)) m))) rfl ?_
      exact ⟨congrArg (fun z => some (Value.int z)) ((kx_td_eq (fun j hj => ⟨kx_knf (lr := lr) hk a4 hj (by omega), (hk j hj).2.2.2.2.2.2.2.1⟩)).symm), _, _, rfl, kx_Rl_skip lr g w i hR⟩
    · refine kx_two (by decide) (Nat.le_of_ble_eq_true rfl) (by decide) (Nat.le_of_ble_eq_true rfl) ?_
      refine kx_st 0 (pc' := 0) (L' := [some (.ref 0), some (.int 6)]) (st' := []) (h' := kv_wd g w) rfl ?_
      refine kx_st 5 (pc' := 124) (L' := [some (.ref 0), some (.int 6)]) (st' := [.int (g 1 8)]) (h' := kv_wd g w) rfl ?_
      refine kx_ret (v := some (.int (g 1 8))) rfl ?_
      refine ⟨_, _, _, rfl, rfl, ?_⟩
      refine kx_st 0 (pc' := 0) (L' := [some (.ref 65), some (.int 6)]) (st' := []) (h' := kv_wd g w) rfl ?_
      refine kx_st 5 (pc' := 97) (L' := [some (.ref 65), some (.int 6)]) (st' := [.int 4, .ref 66]) (h' := kv_wd g w) rfl ?_
      refine kx_ia (k := 4) rfl rfl (by decide) rfl (by decide) (by decide) ?_
      refine kx_ret (v := some (.int (g 66 4))) rfl ?_
      exact ⟨congrArg (fun z => some (Value.int z)) ((by obtain ⟨y, -, y1, y2, -⟩ := H4; exact y2.trans y1.symm)), _, _, rfl, kx_Rl_skip lr g w i hR⟩
    · refine kx_two (by decide) (Nat.le_of_ble_eq_true rfl) (by decide) (Nat.le_of_ble_eq_true rfl) ?_
      refine kx_st 0 (pc' := 0) (L' := [some (.ref 0), some (.int 7)]) (st' := []) (h' := kv_wd g w) rfl ?_
      refine kx_st 5 (pc' := 132) (L' := [some (.ref 0), some (.int 7)]) (st' := [.int (g 1 10)]) (h' := kv_wd g w) rfl ?_
      refine kx_ret (v := some (.int (g 1 10))) rfl ?_
      refine ⟨_, _, _, rfl, rfl, ?_⟩
      refine kx_st 0 (pc' := 0) (L' := [some (.ref 65), some (.int 7)]) (st' := []) (h' := kv_wd g w) rfl ?_
      refine kx_st 5 (pc' := 104) (L' := [some (.ref 65), some (.int 7)]) (st' := [.int 5, .ref 66]) (h' := kv_wd g w) rfl ?_
      refine kx_ia (k := 5) rfl rfl (by decide) rfl (by decide) (by decide) ?_
      refine kx_ret (v := some (.int (g 66 5))) rfl ?_
      exact ⟨congrArg (fun z => some (Value.int z)) ((by obtain ⟨y, -, y1, y2, -⟩ := H5; exact y2.trans y1.symm)), _, _, rfl, kx_Rl_skip lr g w i hR⟩
    · refine kx_two (by decide) (Nat.le_of_ble_eq_true rfl) (by decide) (Nat.le_of_ble_eq_true rfl) ?_
      refine kx_st 0 (pc' := 0) (L' := [some (.ref 0), some (.int 8)]) (st' := []) (h' := kv_wd g w) rfl ?_
      refine kx_st 5 (pc' := 140) (L' := [some (.ref 0), some (.int 8)]) (st' := [.int (g 53 1)]) (h' := kv_wd g w) rfl ?_
      refine kx_ret (v := some (.int (g 53 1))) rfl ?_
      refine ⟨_, _, _, rfl, rfl, ?_⟩
      refine kx_st 0 (pc' := 0) (L' := [some (.ref 65), some (.int 8)]) (st' := []) (h' := kv_wd g w) rfl ?_
      refine kx_st 4 (pc' := 110) (L' := [some (.ref 65), some (.int 8)]) (st' := [.int (g 65 20)]) (h' := kv_wd g w) rfl ?_
      refine kx_ret (v := some (.int (g 65 20))) rfl ?_
      exact ⟨congrArg (fun z => some (Value.int z)) ((by obtain ⟨y, -, y1, y2, -⟩ := tr; exact y2.trans y1.symm)), _, _, rfl, kx_Rl_skip lr g w i hR⟩
    · refine kx_two (by decide) (Nat.le_of_ble_eq_true rfl) (by decide) (Nat.le_of_ble_eq_true rfl) ?_
      refine kx_st 0 (pc' := 0) (L' := [some (.ref 0), some (.int 9)]) (st' := []) (h' := kv_wd g w) rfl ?_
      refine kx_st 5 (pc' := 148) (L' := [some (.ref 0), some (.int 9)]) (st' := [.int (g 1 11)]) (h' := kv_wd g w) rfl ?_
      refine kx_ret (v := some (.int (g 1 11))) rfl ?_
      refine ⟨_, _, _, rfl, rfl, ?_⟩
      refine kx_st 0 (pc' := 0) (L' := [some (.ref 65), some (.int 9)]) (st' := []) (h' := kv_wd g w) rfl ?_
      refine kx_st 5 (pc' := 116) (L' := [some (.ref 65), some (.int 9)]) (st' := [.int 1, .ref 66]) (h' := kv_wd g w) rfl ?_
      refine kx_ia (k := 1) rfl rfl (by decide) rfl (by decide) (by decide) ?_
      refine kx_ret (v := some (.int (g 66 1))) rfl ?_
      exact ⟨congrArg (fun z => some (Value.int z)) (hz.symm), _, _, rfl, kx_Rl_skip lr g w i hR⟩
  · have hv2 : a.toInt < 0 ∨ 9 < a.toInt := by
      rw [Int32.le_iff_toInt_le, Int32.le_iff_toInt_le, show (0 : Int32).toInt = 0 from rfl, show (9 : Int32).toInt = 9 from rfl] at hv; omega
    refine kx_two (by decide) (Nat.le_of_ble_eq_true rfl) (by decide) (Nat.le_of_ble_eq_true rfl) ?_
    refine kx_st 1 (pc' := 1) (L' := [some (.ref 0), some (.int a)]) (st' := [.int a]) (h' := kv_wd g w) rfl ?_
    refine kx_ts (td := 149) rfl rfl (fun _ => ?_) (fun j hj hx => absurd hv2 (by omega))
    refine kx_st 2 (pc' := 151) (L' := [some (.ref 0), some (.int a)]) (st' := [.int 1, .ref 0]) (h' := kv_wd g w) rfl ?_
    refine kx_call (z := 123) (as := [.ref 0, .int 1]) (rest := []) (v := some (.int (-1000000000 - nI 1))) (h1 := kv_wd (kv_up g 64 1 (g 64 1 + 1)) w) rfl (ev_error (d := 898) 1 (by decide) (by decide)) ?_
    refine kx_st 0 (pc' := 154) (L' := [some (.ref 0), some (.int a)]) (st' := [.int (-1000000000 - nI 1)]) (h' := kv_wd (kv_up g 64 1 (g 64 1 + 1)) w) rfl ?_
    refine kx_ret (v := some (.int (-1000000000 - nI 1))) rfl ?_
    refine ⟨_, _, _, rfl, rfl, ?_⟩
    refine kx_st 1 (pc' := 1) (L' := [some (.ref 65), some (.int a)]) (st' := [.int a]) (h' := kv_wd (kv_up g 64 1 (g 64 1 + 1)) w) rfl ?_
    refine kx_ts (td := 118) rfl rfl (fun _ => ?_) (fun j hj hx => absurd hv2 (by omega))
    refine kx_st 2 (pc' := 121) (L' := [some (.ref 65), some (.int a)]) (st' := [.int (-1000000001), .ref 65]) (h' := kv_wd (kv_up g 64 1 (g 64 1 + 1)) w) rfl ?_
    refine kx_call (z := 131) (as := [.ref 65, .int (-1000000001)]) (rest := []) (v := some (.int (-1000000001))) (h1 := kv_wd (kv_up (kv_up g 64 1 (g 64 1 + 1)) 70 1 ((kv_up g 64 1 (g 64 1 + 1)) 70 1 + 1)) w) rfl (ev_errs (d := 898) (-1000000001) 1 (by decide) (by decide)) ?_
    refine kx_st 0 (pc' := 124) (L' := [some (.ref 65), some (.int a)]) (st' := [.int (-1000000001)]) (h' := kv_wd (kv_up (kv_up g 64 1 (g 64 1 + 1)) 70 1 ((kv_up g 64 1 (g 64 1 + 1)) 70 1 + 1)) w) rfl ?_
    refine kx_ret (v := some (.int (-1000000001))) rfl ?_
    exact ⟨rfl, _, _, rfl, kx_Rl_e hR⟩
end KP12
