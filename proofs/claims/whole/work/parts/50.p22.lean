/-! PAIRS: waitFor, check, undo -/
set_option maxRecDepth 100000 in
theorem lp_xwait {E : kv_V} {d : Nat} {w : kv_W} {F0 F1 : kx_FF} {s t m : Nat} {K : Nat → Nat → Int32} (q : kx_Q) (g : kv_S) (hX : kx_X F0 F1 s t m K g) (hqb : kx_qb q) (hF0 : kx_LF 0 F0) (k : Nat) (hkm : k < m) (hK : kx_K s k (K k) (K k)) (e : Nat) (he : e ≤ 61) (hp : ∀ j, j < e → (kx_nr F1 t (kx_yn F0 s t j q) (K k) s 36).1 < 0) (hx : e = 61 ∨ 0 ≤ (kx_nr F1 t (kx_yn F0 s t e q) (K k) s 36).1) {P : Option Value → kv_H → Prop} (hP1 : e < 61 → ∀ g1 : kv_S, (∀ b, b ≠ 8 → b ≠ 11 → b ≠ 44 → b ≠ 45 → b ≠ 46 → g1 b = g b) → P (some (.int (nI e))) (kv_wd (g1) w)) (hP2 : e = 61 → ∀ g1 : kv_S, (∀ b, b ≠ 8 → b ≠ 11 → b ≠ 44 → b ≠ 45 → b ≠ 46 → g1 b = g b) → kx_V E (d + 9) 106 73 [some (.ref 0), some (.int (nI k)), some (.ref (14 + k)), some (.int (nI e))] [] (kv_wd g1 w) P) : ∀ (nz n : Nat) (g1 : kv_S), n + nz = e → (kx_hq (g1 45) (g1 46) (g1 44 2) (kx_yn F0 s t n q) ∧ (∀ b, b ≠ 8 → b ≠ 11 → b ≠ 44 → b ≠ 45 → b ≠ 46 → g1 b = g b)) → kx_V E (d + 9) 106 33 [some (.ref 0), some (.int (nI k)), some (.ref (14 + k)), some (.int (nI n))] [] (kv_wd g1 w) P := by
  have hk8 : k < 8 := by have := hX.1.2.2.2; omega
  intro nz
  induction nz with
  | zero =>
    intro n g1 hi h1
    have hkN : n = e := by omega
    subst hkN
    have hX1 : kx_X F0 F1 s t m K g1 := kx_X_cg (fun b hb => h1.2 b (by omega) (by omega) (by omega) (by omega) (by omega)) hX
    by_cases h61 : n = 61
    · refine kx_st 2 (pc' := 36) (L' := [some (.ref 0), some (.int (nI k)), some (.ref (14 + k)), some (.int (nI n))]) (st' := [.int 60, .int (nI n)]) (h' := kv_wd g1 w) rfl ?_
      refine kx_bi (t := 73) rfl rfl (fun (h36 : 60 < nI n) => ?_) (fun (h36 : ¬ (60 < nI n)) => ?_)
      · exact hP2 h61 g1 h1.2
      · exact absurd (nI_lt (a := 60) (b := n) (by omega) (by omega)) h36
    · refine kx_st 2 (pc' := 36) (L' := [some (.ref 0), some (.int (nI k)), some (.ref (14 + k)), some (.int (nI n))]) (st' := [.int 60, .int (nI n)]) (h' := kv_wd g1 w) rfl ?_
      refine kx_bi (t := 73) rfl rfl (fun (h36 : 60 < nI n) => ?_) (fun (h36 : ¬ (60 < nI n)) => ?_)
      · exact absurd h36 (nI_nlt (a := 60) (b := n) (by omega) (by omega))
      · refine kx_st 0 (pc' := 39) (L' := [some (.ref 0), some (.int (nI k)), some (.ref (14 + k)), some (.int (nI n))]) (st' := []) (h' := kv_wd g1 w) rfl ?_
        refine kx_st 5 (pc' := 48) (L' := [some (.ref 0), some (.int (nI k)), some (.ref (14 + k)), some (.int (nI n))]) (st' := [.ref (14 + k), .ref 1, .ref 43]) (h' := kv_wd g1 w) rfl ?_
        obtain ⟨fo, en⟩ := ev_nearestPair (E := E) (d := d) (g := g1) (w := w) hX1 _ h1.1 (kx_qb_n hF0 hqb n) k hkm hK
        refine kx_call (z := 65) (as := [.ref 43, .ref 1, .ref (14 + k)]) (rest := []) (v := some (.int ((kx_nr F1 t (kx_yn F0 s t n q) (K k) s 36).1))) (h1 := kv_wd (kv_uf g1 11 fo) w) rfl en ?_
        refine kx_st 0 (pc' := 51) (L' := [some (.ref 0), some (.int (nI k)), some (.ref (14 + k)), some (.int (nI n))]) (st' := [.int ((kx_nr F1 t (kx_yn F0 s t n q) (K k) s 36).1)]) (h' := kv_wd (kv_uf g1 11 fo) w) rfl ?_
        refine kx_bc (t := 56) rfl rfl (fun (h51 : (kx_nr F1 t (kx_yn F0 s t n q) (K k) s 36).1 < 0) => ?_) (fun (h51 : ¬ ((kx_nr F1 t (kx_yn F0 s t n q) (K k) s 36).1 < 0)) => ?_)
        · exact absurd h51 (Int32.not_lt.mpr (hx.resolve_left h61))
        · refine kx_st 0 (pc' := 54) (L' := [some (.ref 0), some (.int (nI k)), some (.ref (14 + k)), some (.int (nI n))]) (st' := []) (h' := kv_wd (kv_uf g1 11 fo) w) rfl ?_
          refine kx_st 1 (pc' := 55) (L' := [some (.ref 0), some (.int (nI k)), some (.ref (14 + k)), some (.int (nI n))]) (st' := [.int (nI n)]) (h' := kv_wd (kv_uf g1 11 fo) w) rfl ?_
          refine kx_ret (v := some (.int (nI n))) rfl ?_
          exact hP1 (by omega) _ (fun b b1 b2 b3 b4 b5 => (kv_uf_ne b2).trans (h1.2 b b1 b2 b3 b4 b5))
  | succ nz ih =>
    intro n g1 hi h1
    have hX1 : kx_X F0 F1 s t m K g1 := kx_X_cg (fun b hb => h1.2 b (by omega) (by omega) (by omega) (by omega) (by omega)) hX
    refine kx_st 2 (pc' := 36) (L' := [some (.ref 0), some (.int (nI k)), some (.ref (14 + k)), some (.int (nI n))]) (st' := [.int 60, .int (nI n)]) (h' := kv_wd g1 w) rfl ?_
    refine kx_bi (t := 73) rfl rfl (fun (h36 : 60 < nI n) => ?_) (fun (h36 : ¬ (60 < nI n)) => ?_)
    · exact absurd h36 (nI_nlt (a := 60) (b := n) (by omega) (by omega))
    · refine kx_st 0 (pc' := 39) (L' := [some (.ref 0), some (.int (nI k)), some (.ref (14 + k)), some (.int (nI n))]) (st' := []) (h' := kv_wd g1 w) rfl ?_
      refine kx_st 5 (pc' := 48) (L' := [some (.ref 0), some (.int (nI k)), some (.ref (14 + k)), some (.int (nI n))]) (st' := [.ref (14 + k), .ref 1, .ref 43]) (h' := kv_wd g1 w) rfl ?_
      obtain ⟨fo, en⟩ := ev_nearestPair (E := E) (d := d) (g := g1) (w := w) hX1 _ h1.1 (kx_qb_n hF0 hqb n) k hkm hK
      refine kx_call (z := 65) (as := [.ref 43, .ref 1, .ref (14 + k)]) (rest := []) (v := some (.int ((kx_nr F1 t (kx_yn F0 s t n q) (K k) s 36).1))) (h1 := kv_wd (kv_uf g1 11 fo) w) rfl en ?_
      refine kx_st 0 (pc' := 51) (L' := [some (.ref 0), some (.int (nI k)), some (.ref (14 + k)), some (.int (nI n))]) (st' := [.int ((kx_nr F1 t (kx_yn F0 s t n q) (K k) s 36).1)]) (h' := kv_wd (kv_uf g1 11 fo) w) rfl ?_
      refine kx_bc (t := 56) rfl rfl (fun (h51 : (kx_nr F1 t (kx_yn F0 s t n q) (K k) s 36).1 < 0) => ?_) (fun (h51 : ¬ ((kx_nr F1 t (kx_yn F0 s t n q) (K k) s 36).1 < 0)) => ?_)
      · refine kx_st 4 (pc' := 64) (L' := [some (.ref 0), some (.int (nI k)), some (.ref (14 + k)), some (.int (nI n))]) (st' := [.ref 1, .ref 43]) (h' := kv_wd (kv_uf g1 11 fo) w) rfl ?_
        obtain ⟨g2, eg, k1, k2⟩ := ev_goOn (E := E) (d := d + 2) (g := kv_uf g1 11 fo) (w := w) (kx_X_cg (fun b hb => kv_uf_ne (by omega)) hX1) _ h1.1
        refine kx_call (z := 61) (as := [.ref 43, .ref 1]) (rest := []) (v := none) (h1 := kv_wd g2 w) rfl eg ?_
        refine kx_st 0 (pc' := 67) (L' := [some (.ref 0), some (.int (nI k)), some (.ref (14 + k)), some (.int (nI n))]) (st' := []) (h' := kv_wd g2 w) rfl ?_
        refine kx_st 2 (pc' := 33) (L' := [some (.ref 0), some (.int (nI k)), some (.ref (14 + k)), some (.int ((nI n) + 1))]) (st' := []) (h' := kv_wd g2 w) rfl ?_
        rw [← nI_succ]
        exact ih (n + 1) g2 (by omega) ⟨k1, fun b b1 b2 b3 b4 b5 => (k2 b b1 b3 b4 b5).trans ((kv_uf_ne b2).trans (h1.2 b b1 b2 b3 b4 b5))⟩
      · exact absurd (hp n (by omega)) h51
set_option maxRecDepth 100000 in
theorem lp_mwait {E : kv_V} {d : Nat} {w : kv_W} {F0 F1 : kx_FF} {s t m : Nat} {K : Nat → Nat → Int32} (q : kx_Q) (g : kv_S) (hM : kx_M F0 F1 s t m K (g 66)) (hqb : kx_qb q) (hF0 : kx_LF 0 F0) (k : Nat) (hkm : k < m) (hK : kx_K s k (K k) (K k)) (e : Nat) (he : e ≤ 61) (hp : ∀ j, j < e → (kx_nr F1 t (kx_yn F0 s t j q) (K k) s 36).1 < 0) (hx : e = 61 ∨ 0 ≤ (kx_nr F1 t (kx_yn F0 s t e q) (K k) s 36).1) {P : Option Value → kv_H → Prop} (hP : ∀ g1 : kv_S, ((∀ b, b ≠ 65 → b ≠ 66 → g1 b = g b) ∧ ∀ k, (k < 7 ∨ 14 < k) → g1 65 k = g 65 k) → kx_V E (d + 102) 197 53 [some (.ref 65), some (.int (nI k)), some (.int (nI e))] [] (kv_wd g1 w) P) : ∀ (nz n : Nat) (g1 : kv_S), n + nz = e → (kx_hmq (g1 66) (kx_yn F0 s t n q) ∧ (∀ j, 0 < j → (j < 8 ∨ 20 ≤ j) → g1 66 j = g 66 j) ∧ (∀ b, b ≠ 65 → b ≠ 66 → g1 b = g b) ∧ ∀ k, (k < 7 ∨ 14 < k) → g1 65 k = g 65 k) → kx_V E (d + 102) 197 29 [some (.ref 65), some (.int (nI k)), some (.int (nI n))] [] (kv_wd g1 w) P := by
  intro nz
  induction nz with
  | zero =>
    intro n g1 hi h1
    have hkN : n = e := by omega
    subst hkN
    have hM1 : kx_M F0 F1 s t m K (g1 66) := kx_M_cg (fun j hj j0 _ => h1.2.1 j j0 hj) hM
    by_cases h61 : n = 61
    · refine kx_st 2 (pc' := 32) (L' := [some (.ref 65), some (.int (nI k)), some (.int (nI n))]) (st' := [.int 60, .int (nI n)]) (h' := kv_wd g1 w) rfl ?_
      refine kx_bi (t := 53) rfl rfl (fun (h32 : 60 < nI n) => ?_) (fun (h32 : ¬ (60 < nI n)) => ?_)
      · exact hP g1 h1.2.2
      · exact absurd (nI_lt (a := 60) (b := n) (by omega) (by omega)) h32
    · refine kx_st 2 (pc' := 32) (L' := [some (.ref 65), some (.int (nI k)), some (.int (nI n))]) (st' := [.int 60, .int (nI n)]) (h' := kv_wd g1 w) rfl ?_
      refine kx_bi (t := 53) rfl rfl (fun (h32 : 60 < nI n) => ?_) (fun (h32 : ¬ (60 < nI n)) => ?_)
      · exact absurd h32 (nI_nlt (a := 60) (b := n) (by omega) (by omega))
      · refine kx_st 0 (pc' := 35) (L' := [some (.ref 65), some (.int (nI k)), some (.int (nI n))]) (st' := []) (h' := kv_wd g1 w) rfl ?_
        refine kx_st 2 (pc' := 37) (L' := [some (.ref 65), some (.int (nI k)), some (.int (nI n))]) (st' := [.int (nI k), .ref 65]) (h' := kv_wd g1 w) rfl ?_
        obtain ⟨fo, ko, en⟩ := ev_mnearest (E := E) (d := d) (g := g1) (w := w) hM1 _ h1.1 k hkm hK
        refine kx_call (z := 176) (as := [.ref 65, .int (nI k)]) (rest := []) (v := some (.int ((kx_nr F1 t (kx_yn F0 s t n q) (K k) s 36).1))) (h1 := kv_wd (kv_uf g1 65 fo) w) rfl en ?_
        refine kx_st 0 (pc' := 40) (L' := [some (.ref 65), some (.int (nI k)), some (.int (nI n))]) (st' := [.int ((kx_nr F1 t (kx_yn F0 s t n q) (K k) s 36).1)]) (h' := kv_wd (kv_uf g1 65 fo) w) rfl ?_
        refine kx_bc (t := 53) rfl rfl (fun (h40 : 0 ≤ (kx_nr F1 t (kx_yn F0 s t n q) (K k) s 36).1) => ?_) (fun (h40 : ¬ (0 ≤ (kx_nr F1 t (kx_yn F0 s t n q) (K k) s 36).1)) => ?_)
        · exact hP _ ⟨fun b b1 b2 => (kv_uf_ne b1).trans (h1.2.2.1 b b1 b2), fun z hz => (ko z hz).trans (h1.2.2.2 z hz)⟩
        · exact absurd (hx.resolve_left h61) h40
  | succ nz ih =>
    intro n g1 hi h1
    have hM1 : kx_M F0 F1 s t m K (g1 66) := kx_M_cg (fun j hj j0 _ => h1.2.1 j j0 hj) hM
    refine kx_st 2 (pc' := 32) (L' := [some (.ref 65), some (.int (nI k)), some (.int (nI n))]) (st' := [.int 60, .int (nI n)]) (h' := kv_wd g1 w) rfl ?_
    refine kx_bi (t := 53) rfl rfl (fun (h32 : 60 < nI n) => ?_) (fun (h32 : ¬ (60 < nI n)) => ?_)
    · exact absurd h32 (nI_nlt (a := 60) (b := n) (by omega) (by omega))
    · refine kx_st 0 (pc' := 35) (L' := [some (.ref 65), some (.int (nI k)), some (.int (nI n))]) (st' := []) (h' := kv_wd g1 w) rfl ?_
      refine kx_st 2 (pc' := 37) (L' := [some (.ref 65), some (.int (nI k)), some (.int (nI n))]) (st' := [.int (nI k), .ref 65]) (h' := kv_wd g1 w) rfl ?_
      obtain ⟨fo, ko, en⟩ := ev_mnearest (E := E) (d := d) (g := g1) (w := w) hM1 _ h1.1 k hkm hK
      refine kx_call (z := 176) (as := [.ref 65, .int (nI k)]) (rest := []) (v := some (.int ((kx_nr F1 t (kx_yn F0 s t n q) (K k) s 36).1))) (h1 := kv_wd (kv_uf g1 65 fo) w) rfl en ?_
      refine kx_st 0 (pc' := 40) (L' := [some (.ref 65), some (.int (nI k)), some (.int (nI n))]) (st' := [.int ((kx_nr F1 t (kx_yn F0 s t n q) (K k) s 36).1)]) (h' := kv_wd (kv_uf g1 65 fo) w) rfl ?_
      refine kx_bc (t := 53) rfl rfl (fun (h40 : 0 ≤ (kx_nr F1 t (kx_yn F0 s t n q) (K k) s 36).1) => ?_) (fun (h40 : ¬ (0 ≤ (kx_nr F1 t (kx_yn F0 s t n q) (K k) s 36).1)) => ?_)
      · exact absurd (hp n (by omega)) (Int32.not_lt.mpr h40)
      · refine kx_st 0 (pc' := 43) (L' := [some (.ref 65), some (.int (nI k)), some (.int (nI n))]) (st' := []) (h' := kv_wd (kv_uf g1 65 fo) w) rfl ?_
        refine kx_st 1 (pc' := 44) (L' := [some (.ref 65), some (.int (nI k)), some (.int (nI n))]) (st' := [.ref 65]) (h' := kv_wd (kv_uf g1 65 fo) w) rfl ?_
        obtain ⟨g2, eg, k1, k2, k3, k4⟩ := ev_oneYear (E := E) (d := d + 1) (g := kv_uf g1 65 fo) (w := w) hM1 _ h1.1
        refine kx_call (z := 178) (as := [.ref 65]) (rest := []) (v := none) (h1 := kv_wd g2 w) rfl eg ?_
        refine kx_st 0 (pc' := 47) (L' := [some (.ref 65), some (.int (nI k)), some (.int (nI n))]) (st' := []) (h' := kv_wd g2 w) rfl ?_
        refine kx_st 2 (pc' := 29) (L' := [some (.ref 65), some (.int (nI k)), some (.int ((nI n) + 1))]) (st' := []) (h' := kv_wd g2 w) rfl ?_
        rw [← nI_succ]
        exact ih (n + 1) g2 (by omega) ⟨k1, fun j j0 hj => (k2 j j0 hj).trans (h1.2.1 j j0 hj), fun b b1 b2 => (k3 b b1 b2).trans ((kv_uf_ne b1).trans (h1.2.2.1 b b1 b2)), fun z hz => (k4 z hz).trans ((ko z hz).trans (h1.2.2.2 z hz))⟩
set_option maxRecDepth 100000 in
theorem pr_waitFor {E : kv_V} (a : Int32) : kx_ok2 E (kx_Rl kx_L) 106 197 [.int a] := by
  intro g w i hR hi
  obtain ⟨F0, F1, s, t, m, K, hF0, hF1, hX, hM, hKB, hKe⟩ := kx_Rl_XMK hR
  obtain ⟨q0, hq0, hm0, hb0, hy0⟩ := kx_Rl_q hR
  have q := hR.1
  have b1 := hX.2.1.1
  have b2 := hM.2.1.1
  have a1 := hX.1.1
  have a2 := hX.1.2.1
  have a4 := hX.1.2.2.2
  have d1 := hX.2.1.2.2
  have d2 := hM.2.1.2
  by_cases hv : 0 ≤ a ∧ a < nI m
  · obtain ⟨k, hkm, rfl⟩ := kx_nIlt hv.1 hv.2 (by omega)
    have hk8 : k < 8 := by omega
    have hK := hKB k hkm
    have kk : ∀ c, c < 9 → g (14 + k) c = K k c := hX.2.2.2.2 k hkm
    obtain ⟨e, he, hp, hx⟩ := kx_first (fun n => (kx_nr F1 t (kx_yn F0 s t n q0) (K k) s 36).1 < 0) 61
    have hx : e = 61 ∨ 0 ≤ (kx_nr F1 t (kx_yn F0 s t e q0) (K k) s 36).1 := hx.imp id Int32.not_lt.mp
    refine kx_two (by decide) (Nat.le_of_ble_eq_true rfl) (by decide) (Nat.le_of_ble_eq_true rfl) ?_
    refine kx_st 0 (pc' := 0) (L' := [some (.ref 0), some (.int (nI k)), none, none]) (st' := []) (h' := kv_wd g w) rfl ?_
    refine kx_st 3 (pc' := 5) (L' := [some (.ref 0), some (.int (nI k)), none, none]) (st' := [.int (nI k), .ref 1]) (h' := kv_wd g w) rfl ?_
    refine kx_call (z := 17) (as := [.ref 1, .int (nI k)]) (rest := []) (v := some (.ref (14 + k))) (h1 := kv_wd g w) rfl (ev_knotAt (d := 898) (g := g) q k hk8 (by rw [d1]; exact nI_lt hkm (by omega))) ?_
    refine kx_st 0 (pc' := 8) (L' := [some (.ref 0), some (.int (nI k)), none, none]) (st' := [.ref (14 + k)]) (h' := kv_wd g w) rfl ?_
    refine kx_st 2 (pc' := 10) (L' := [some (.ref 0), some (.int (nI k)), some (.ref (14 + k)), none]) (st' := [.ref (14 + k)]) (h' := kv_wd g w) rfl ?_
    refine kx_st 1 (pc' := 19) (L' := [some (.ref 0), some (.int (nI k)), some (.ref (14 + k)), none]) (st' := []) (h' := kv_wd g w) rfl ?_
    refine kx_st 5 (pc' := 28) (L' := [some (.ref 0), some (.int (nI k)), some (.ref (14 + k)), none]) (st' := [.int 0, .ref 1, .ref 43]) (h' := kv_wd g w) rfl ?_
    obtain ⟨g28, e28, q28, r28⟩ := ev_goBehind (E := E) (d := 891) (g := g) (w := w) (kx_X_cg (fun b hb => rfl) hX) q0 hq0 0 (by omega)
    refine kx_call (z := 60) (as := [.ref 43, .ref 1, .int 0]) (rest := []) (v := none) (h1 := kv_wd g28 w) rfl e28 ?_
    refine kx_st 0 (pc' := 31) (L' := [some (.ref 0), some (.int (nI k)), some (.ref (14 + k)), none]) (st' := []) (h' := kv_wd g28 w) rfl ?_
    refine kx_st 2 (pc' := 33) (L' := [some (.ref 0), some (.int (nI k)), some (.ref (14 + k)), some (.int 0)]) (st' := []) (h' := kv_wd g28 w) rfl ?_
    refine lp_xwait (d := 890) q0 g hX hb0 hF0 k hkm hK e he hp hx (fun h61 g36 r36 => ?_) (fun h61 g36 r36 => ?_) e 0 g28 (by omega) ⟨q28, fun b b1 b2 b3 b4 b5 => r28 b b1 b3 b4 b5⟩
    · refine ⟨_, _, _, rfl, rfl, ?_⟩
      refine kx_st 0 (pc' := 0) (L' := [some (.ref 65), some (.int (nI k)), none]) (st' := []) (h' := kv_wd g36 w) rfl ?_
      refine kx_st 2 (pc' := 2) (L' := [some (.ref 65), some (.int (nI k)), none]) (st' := [.int (nI k), .ref 65]) (h' := kv_wd g36 w) rfl ?_
      refine kx_call (z := 139) (as := [.ref 65, .int (nI k)]) (rest := []) (v := some (.int (kx_b (0 ≤ nI k ∧ nI k < nI m)))) (h1 := kv_wd g36 w) rfl (ev_mKnotS (d := 897) (g := g36) (s := m) (by show g36 66 2 = _; rw [(r36 66 (by omega) (by omega) (by omega) (by omega) (by omega))]; exact d2) a4 (nI k)) ?_
      refine kx_st 0 (pc' := 5) (L' := [some (.ref 65), some (.int (nI k)), none]) (st' := [.int (kx_b (0 ≤ nI k ∧ nI k < nI m))]) (h' := kv_wd g36 w) rfl ?_
      refine kx_bn (t := 15) rfl rfl (fun (m5 : (0 ≤ nI k ∧ nI k < nI m)) => ?_) (fun (m5 : ¬ (0 ≤ nI k ∧ nI k < nI m)) => ?_)
      · refine kx_st 5 (pc' := 24) (L' := [some (.ref 65), some (.int (nI k)), none]) (st' := [.ref 68, .ref 66, .ref 65]) (h' := kv_wd g36 w) rfl ?_
        refine kx_call (z := 133) (as := [.ref 65, .ref 66, .ref 68]) (rest := []) (v := none) (h1 := kv_wd (kv_uf g36 68 (kx_mv (g36 66) (g36 68) 268)) w) rfl (ev_moveAll (d := 898) (a := 66) (b := 68) rfl rfl (by decide) (by decide) (by decide)) ?_
        refine kx_st 0 (pc' := 27) (L' := [some (.ref 65), some (.int (nI k)), none]) (st' := []) (h' := kv_wd (kv_uf g36 68 (kx_mv (g36 66) (g36 68) 268)) w) rfl ?_
        refine kx_st 2 (pc' := 29) (L' := [some (.ref 65), some (.int (nI k)), some (.int 0)]) (st' := []) (h' := kv_wd (kv_uf g36 68 (kx_mv (g36 66) (g36 68) 268)) w) rfl ?_
        have M36 : kx_M F0 F1 s t m K (g36 66) := by rw [(r36 66 (by omega) (by omega) (by omega) (by omega) (by omega))]; exact hM
        have m36 : kx_hmq (g36 66) q0 := by rw [(r36 66 (by omega) (by omega) (by omega) (by omega) (by omega))]; exact hm0
        refine lp_mwait (d := 797) q0 (kv_uf g36 68 (kx_mv (g36 66) (g36 68) 268)) M36 hb0 hF0 k hkm hK e he hp hx (fun g31 r31 => ?_) e 0 (kv_uf g36 68 (kx_mv (g36 66) (g36 68) 268)) (by omega) ⟨m36, fun _ _ _ => rfl, fun _ _ _ => rfl, fun _ _ => rfl⟩
        refine kx_st 0 (pc' := 53) (L' := [some (.ref 65), some (.int (nI k)), some (.int (nI e))]) (st' := []) (h' := kv_wd g31 w) rfl ?_
        refine kx_st 5 (pc' := 62) (L' := [some (.ref 65), some (.int (nI k)), some (.int (nI e))]) (st' := [.ref 66, .ref 68, .ref 65]) (h' := kv_wd g31 w) rfl ?_
        refine kx_call (z := 133) (as := [.ref 65, .ref 68, .ref 66]) (rest := []) (v := none) (h1 := kv_wd (kv_uf g31 66 (kx_mv (g31 68) (g31 66) 268)) w) rfl (ev_moveAll (d := 898) (a := 68) (b := 66) rfl rfl (by decide) (by decide) (by decide)) ?_
        refine kx_st 0 (pc' := 65) (L' := [some (.ref 65), some (.int (nI k)), some (.int (nI e))]) (st' := []) (h' := kv_wd (kv_uf g31 66 (kx_mv (g31 68) (g31 66) 268)) w) rfl ?_
        refine kx_st 2 (pc' := 68) (L' := [some (.ref 65), some (.int (nI k)), some (.int (nI e))]) (st' := [.int 60, .int (nI e)]) (h' := kv_wd (kv_uf g31 66 (kx_mv (g31 68) (g31 66) 268)) w) rfl ?_
        refine kx_bi (t := 80) rfl rfl (fun (m68 : nI e ≤ 60) => ?_) (fun (m68 : ¬ (nI e ≤ 60)) => ?_)
        · refine kx_st 1 (pc' := 81) (L' := [some (.ref 65), some (.int (nI k)), some (.int (nI e))]) (st' := [.int (nI e)]) (h' := kv_wd (kv_uf g31 66 (kx_mv (g31 68) (g31 66) 268)) w) rfl ?_
          refine kx_ret (v := some (.int (nI e))) rfl ?_
          exact ⟨rfl, _, _, rfl, kx_Rl_skip _ _ _ _ (kx_Rl_ro hR rfl (fun b h8 h11 h4 h65 h66 h68 h69 => (by rw [kv_uf_ne h66]; exact (r31.1 b h65 h66).trans (by rw [kv_uf_ne h68]; exact r36 b h8 h11 (by omega) (by omega) (by omega)))) (fun z hz => (r31.2 z hz).trans (congrFun (r36 65 (by omega) (by omega) (by omega) (by omega) (by omega)) z)) (fun j hj => (kx_tm_end (g := g36) r31.1 j hj).trans (congrFun (r36 66 (by omega) (by omega) (by omega) (by omega) (by omega)) j)))⟩
        · exact absurd (nI_le (a := e) (b := 60) (by omega) (by omega)) m68
      · exact absurd hv m5
    · refine kx_st 0 (pc' := 73) (L' := [some (.ref 0), some (.int (nI k)), some (.ref (14 + k)), some (.int (nI e))]) (st' := []) (h' := kv_wd g36 w) rfl ?_
      refine kx_st 2 (pc' := 75) (L' := [some (.ref 0), some (.int (nI k)), some (.ref (14 + k)), some (.int (nI e))]) (st' := [.int 2, .ref 0]) (h' := kv_wd g36 w) rfl ?_
      refine kx_call (z := 123) (as := [.ref 0, .int 2]) (rest := []) (v := some (.int (-1000000000 - nI 2))) (h1 := kv_wd (kv_up g36 64 2 (g36 64 2 + 1)) w) rfl (ev_error (d := 898) 2 (by decide) (by decide)) ?_
      refine kx_st 0 (pc' := 78) (L' := [some (.ref 0), some (.int (nI k)), some (.ref (14 + k)), some (.int (nI e))]) (st' := [.int (-1000000000 - nI 2)]) (h' := kv_wd (kv_up g36 64 2 (g36 64 2 + 1)) w) rfl ?_
      refine kx_ret (v := some (.int (-1000000000 - nI 2))) rfl ?_
      refine ⟨_, _, _, rfl, rfl, ?_⟩
      refine kx_st 0 (pc' := 0) (L' := [some (.ref 65), some (.int (nI k)), none]) (st' := []) (h' := kv_wd (kv_up g36 64 2 (g36 64 2 + 1)) w) rfl ?_
      refine kx_st 2 (pc' := 2) (L' := [some (.ref 65), some (.int (nI k)), none]) (st' := [.int (nI k), .ref 65]) (h' := kv_wd (kv_up g36 64 2 (g36 64 2 + 1)) w) rfl ?_
      refine kx_call (z := 139) (as := [.ref 65, .int (nI k)]) (rest := []) (v := some (.int (kx_b (0 ≤ nI k ∧ nI k < nI m)))) (h1 := kv_wd (kv_up g36 64 2 (g36 64 2 + 1)) w) rfl (ev_mKnotS (d := 897) (g := kv_up g36 64 2 (g36 64 2 + 1)) (s := m) (by show g36 66 2 = _; rw [(r36 66 (by omega) (by omega) (by omega) (by omega) (by omega))]; exact d2) a4 (nI k)) ?_
      refine kx_st 0 (pc' := 5) (L' := [some (.ref 65), some (.int (nI k)), none]) (st' := [.int (kx_b (0 ≤ nI k ∧ nI k < nI m))]) (h' := kv_wd (kv_up g36 64 2 (g36 64 2 + 1)) w) rfl ?_
      refine kx_bn (t := 15) rfl rfl (fun (m5 : (0 ≤ nI k ∧ nI k < nI m)) => ?_) (fun (m5 : ¬ (0 ≤ nI k ∧ nI k < nI m)) => ?_)
      · refine kx_st 5 (pc' := 24) (L' := [some (.ref 65), some (.int (nI k)), none]) (st' := [.ref 68, .ref 66, .ref 65]) (h' := kv_wd (kv_up g36 64 2 (g36 64 2 + 1)) w) rfl ?_
        refine kx_call (z := 133) (as := [.ref 65, .ref 66, .ref 68]) (rest := []) (v := none) (h1 := kv_wd (kv_uf (kv_up g36 64 2 (g36 64 2 + 1)) 68 (kx_mv ((kv_up g36 64 2 (g36 64 2 + 1)) 66) ((kv_up g36 64 2 (g36 64 2 + 1)) 68) 268)) w) rfl (ev_moveAll (d := 898) (a := 66) (b := 68) rfl rfl (by decide) (by decide) (by decide)) ?_
        refine kx_st 0 (pc' := 27) (L' := [some (.ref 65), some (.int (nI k)), none]) (st' := []) (h' := kv_wd (kv_uf (kv_up g36 64 2 (g36 64 2 + 1)) 68 (kx_mv ((kv_up g36 64 2 (g36 64 2 + 1)) 66) ((kv_up g36 64 2 (g36 64 2 + 1)) 68) 268)) w) rfl ?_
        refine kx_st 2 (pc' := 29) (L' := [some (.ref 65), some (.int (nI k)), some (.int 0)]) (st' := []) (h' := kv_wd (kv_uf (kv_up g36 64 2 (g36 64 2 + 1)) 68 (kx_mv ((kv_up g36 64 2 (g36 64 2 + 1)) 66) ((kv_up g36 64 2 (g36 64 2 + 1)) 68) 268)) w) rfl ?_
        have M36 : kx_M F0 F1 s t m K (g36 66) := by rw [(r36 66 (by omega) (by omega) (by omega) (by omega) (by omega))]; exact hM
        have m36 : kx_hmq (g36 66) q0 := by rw [(r36 66 (by omega) (by omega) (by omega) (by omega) (by omega))]; exact hm0
        refine lp_mwait (d := 797) q0 (kv_uf (kv_up g36 64 2 (g36 64 2 + 1)) 68 (kx_mv ((kv_up g36 64 2 (g36 64 2 + 1)) 66) ((kv_up g36 64 2 (g36 64 2 + 1)) 68) 268)) M36 hb0 hF0 k hkm hK e he hp hx (fun g31 r31 => ?_) e 0 (kv_uf (kv_up g36 64 2 (g36 64 2 + 1)) 68 (kx_mv ((kv_up g36 64 2 (g36 64 2 + 1)) 66) ((kv_up g36 64 2 (g36 64 2 + 1)) 68) 268)) (by omega) ⟨m36, fun _ _ _ => rfl, fun _ _ _ => rfl, fun _ _ => rfl⟩
        refine kx_st 0 (pc' := 53) (L' := [some (.ref 65), some (.int (nI k)), some (.int (nI e))]) (st' := []) (h' := kv_wd g31 w) rfl ?_
        refine kx_st 5 (pc' := 62) (L' := [some (.ref 65), some (.int (nI k)), some (.int (nI e))]) (st' := [.ref 66, .ref 68, .ref 65]) (h' := kv_wd g31 w) rfl ?_
        refine kx_call (z := 133) (as := [.ref 65, .ref 68, .ref 66]) (rest := []) (v := none) (h1 := kv_wd (kv_uf g31 66 (kx_mv (g31 68) (g31 66) 268)) w) rfl (ev_moveAll (d := 898) (a := 68) (b := 66) rfl rfl (by decide) (by decide) (by decide)) ?_
        refine kx_st 0 (pc' := 65) (L' := [some (.ref 65), some (.int (nI k)), some (.int (nI e))]) (st' := []) (h' := kv_wd (kv_uf g31 66 (kx_mv (g31 68) (g31 66) 268)) w) rfl ?_
        refine kx_st 2 (pc' := 68) (L' := [some (.ref 65), some (.int (nI k)), some (.int (nI e))]) (st' := [.int 60, .int (nI e)]) (h' := kv_wd (kv_uf g31 66 (kx_mv (g31 68) (g31 66) 268)) w) rfl ?_
        refine kx_bi (t := 80) rfl rfl (fun (m68 : nI e ≤ 60) => ?_) (fun (m68 : ¬ (nI e ≤ 60)) => ?_)
        · exact absurd m68 (nI_ge (a := 60) (b := e) (by omega) (by omega))
        · refine kx_st 0 (pc' := 71) (L' := [some (.ref 65), some (.int (nI k)), some (.int (nI e))]) (st' := []) (h' := kv_wd (kv_uf g31 66 (kx_mv (g31 68) (g31 66) 268)) w) rfl ?_
          refine kx_st 2 (pc' := 74) (L' := [some (.ref 65), some (.int (nI k)), some (.int (nI e))]) (st' := [.int (-1000000002), .ref 65]) (h' := kv_wd (kv_uf g31 66 (kx_mv (g31 68) (g31 66) 268)) w) rfl ?_
          refine kx_call (z := 131) (as := [.ref 65, .int (-1000000002)]) (rest := []) (v := some (.int (-1000000002))) (h1 := kv_wd (kv_up (kv_uf g31 66 (kx_mv (g31 68) (g31 66) 268)) 70 2 ((kv_uf g31 66 (kx_mv (g31 68) (g31 66) 268)) 70 2 + 1)) w) rfl (ev_errs (d := 898) (-1000000002) 2 (by decide) (by decide)) ?_
          refine kx_st 0 (pc' := 77) (L' := [some (.ref 65), some (.int (nI k)), some (.int (nI e))]) (st' := [.int (-1000000002)]) (h' := kv_wd (kv_up (kv_uf g31 66 (kx_mv (g31 68) (g31 66) 268)) 70 2 ((kv_uf g31 66 (kx_mv (g31 68) (g31 66) 268)) 70 2 + 1)) w) rfl ?_
          refine kx_st 1 (pc' := 81) (L' := [some (.ref 65), some (.int (nI k)), some (.int (nI e))]) (st' := [.int (-1000000002)]) (h' := kv_wd (kv_up (kv_uf g31 66 (kx_mv (g31 68) (g31 66) 268)) 70 2 ((kv_uf g31 66 (kx_mv (g31 68) (g31 66) 268)) 70 2 + 1)) w) rfl ?_
          refine kx_ret (v := some (.int (-1000000002))) rfl ?_
          refine ⟨rfl, _, _, rfl, kx_Rl_roe (k := 2) hR rfl (fun b h8 h11 h4 h64 h65 h66 h68 h69 h70 => (by rw [kv_up_ne h70, kv_uf_ne h66]; exact (r31.1 b h65 h66).trans (by rw [kv_uf_ne h68, kv_up_ne h64]; exact r36 b h8 h11 (by omega) (by omega) (by omega)))) (fun z hz => (r31.2 z hz).trans (congrFun (r36 65 (by omega) (by omega) (by omega) (by omega) (by omega)) z)) (fun j hj => (kx_tm_end (g := kv_up g36 64 2 (g36 64 2 + 1)) r31.1 j hj).trans (congrFun (r36 66 (by omega) (by omega) (by omega) (by omega) (by omega)) j)) ?_ ?_⟩
          · show g31 64 = _
            rw [r31.1 64 (by omega) (by omega)]
            show upd (g36 64) 2 (g36 64 2 + 1) = _
            rw [r36 64 (by omega) (by omega) (by omega) (by omega) (by omega)]
          · show upd (g31 70) 2 (g31 70 2 + 1) = _
            rw [r31.1 70 (by omega) (by omega)]
            show upd (g36 70) 2 (g36 70 2 + 1) = _
            rw [r36 70 (by omega) (by omega) (by omega) (by omega) (by omega)]
      · exact absurd hv m5
  · refine kx_two (by decide) (Nat.le_of_ble_eq_true rfl) (by decide) (Nat.le_of_ble_eq_true rfl) ?_
    refine kx_st 0 (pc' := 0) (L' := [some (.ref 0), some (.int a), none, none]) (st' := []) (h' := kv_wd g w) rfl ?_
    refine kx_st 3 (pc' := 5) (L' := [some (.ref 0), some (.int a), none, none]) (st' := [.int a, .ref 1]) (h' := kv_wd g w) rfl ?_
    refine kx_call (z := 17) (as := [.ref 1, .int a]) (rest := []) (v := some (.null)) (h1 := kv_wd g w) rfl (ev_knotAt_n (d := 898) (g := g) a (by rw [d1]; exact hv)) ?_
    refine kx_st 0 (pc' := 8) (L' := [some (.ref 0), some (.int a), none, none]) (st' := [.null]) (h' := kv_wd g w) rfl ?_
    refine kx_st 2 (pc' := 10) (L' := [some (.ref 0), some (.int a), some (.null), none]) (st' := [.null]) (h' := kv_wd g w) rfl ?_
    refine kx_st 1 (pc' := 13) (L' := [some (.ref 0), some (.int a), some (.null), none]) (st' := []) (h' := kv_wd g w) rfl ?_
    refine kx_st 2 (pc' := 15) (L' := [some (.ref 0), some (.int a), some (.null), none]) (st' := [.int 1, .ref 0]) (h' := kv_wd g w) rfl ?_
    refine kx_call (z := 123) (as := [.ref 0, .int 1]) (rest := []) (v := some (.int (-1000000000 - nI 1))) (h1 := kv_wd (kv_up g 64 1 (g 64 1 + 1)) w) rfl (ev_error (d := 898) 1 (by decide) (by decide)) ?_
    refine kx_st 0 (pc' := 18) (L' := [some (.ref 0), some (.int a), some (.null), none]) (st' := [.int (-1000000000 - nI 1)]) (h' := kv_wd (kv_up g 64 1 (g 64 1 + 1)) w) rfl ?_
    refine kx_ret (v := some (.int (-1000000000 - nI 1))) rfl ?_
    refine ⟨_, _, _, rfl, rfl, ?_⟩
    refine kx_st 0 (pc' := 0) (L' := [some (.ref 65), some (.int a), none]) (st' := []) (h' := kv_wd (kv_up g 64 1 (g 64 1 + 1)) w) rfl ?_
    refine kx_st 2 (pc' := 2) (L' := [some (.ref 65), some (.int a), none]) (st' := [.int a, .ref 65]) (h' := kv_wd (kv_up g 64 1 (g 64 1 + 1)) w) rfl ?_
    refine kx_call (z := 139) (as := [.ref 65, .int a]) (rest := []) (v := some (.int (kx_b (0 ≤ a ∧ a < nI m)))) (h1 := kv_wd (kv_up g 64 1 (g 64 1 + 1)) w) rfl (ev_mKnotS (d := 897) (g := kv_up g 64 1 (g 64 1 + 1)) (s := m) (by first | exact d2 | (rw [kv_up_ne (by omega)]; exact d2)) a4 a) ?_
    refine kx_st 0 (pc' := 5) (L' := [some (.ref 65), some (.int a), none]) (st' := [.int (kx_b (0 ≤ a ∧ a < nI m))]) (h' := kv_wd (kv_up g 64 1 (g 64 1 + 1)) w) rfl ?_
    refine kx_bn (t := 15) rfl rfl (fun (m5 : (0 ≤ a ∧ a < nI m)) => ?_) (fun (m5 : ¬ (0 ≤ a ∧ a < nI m)) => ?_)
    · exact absurd m5 hv
    · refine kx_st 0 (pc' := 8) (L' := [some (.ref 65), some (.int a), none]) (st' := []) (h' := kv_wd (kv_up g 64 1 (g 64 1 + 1)) w) rfl ?_
      refine kx_st 2 (pc' := 11) (L' := [some (.ref 65), some (.int a), none]) (st' := [.int (-1000000001), .ref 65]) (h' := kv_wd (kv_up g 64 1 (g 64 1 + 1)) w) rfl ?_
      refine kx_call (z := 131) (as := [.ref 65, .int (-1000000001)]) (rest := []) (v := some (.int (-1000000001))) (h1 := kv_wd (kv_up (kv_up g 64 1 (g 64 1 + 1)) 70 1 ((kv_up g 64 1 (g 64 1 + 1)) 70 1 + 1)) w) rfl (ev_errs (d := 898) (-1000000001) 1 (by decide) (by decide)) ?_
      refine kx_st 0 (pc' := 14) (L' := [some (.ref 65), some (.int a), none]) (st' := [.int (-1000000001)]) (h' := kv_wd (kv_up (kv_up g 64 1 (g 64 1 + 1)) 70 1 ((kv_up g 64 1 (g 64 1 + 1)) 70 1 + 1)) w) rfl ?_
      refine kx_ret (v := some (.int (-1000000001))) rfl ?_
      exact ⟨rfl, _, _, rfl, kx_Rl_e hR⟩
set_option maxRecDepth 100000 in
theorem lp_xcheck {E : kv_V} {d : Nat} {w : kv_W} {F0 F1 : kx_FF} {s t m : Nat} {K : Nat → Nat → Int32} (q : kx_Q) (g : kv_S) (hX : kx_X F0 F1 s t m K g) (n e : Nat) (n20 : n ≤ 20) (he : e ≤ n) (W : Nat → Int32) (hW : ∀ j, j < n → g 13 j = W j) (hp : ∀ j, j < e → W j = kx_sum (fun z => (kx_yn F0 s t (j + 1) q).1 z + (kx_yn F0 s t (j + 1) q).2.1 z) s) (hx : e = n ∨ ¬ W e = kx_sum (fun z => (kx_yn F0 s t (e + 1) q).1 z + (kx_yn F0 s t (e + 1) q).2.1 z) s) {P : Option Value → kv_H → Prop} (hP : ∀ g1 : kv_S, (∀ b, b ≠ 8 → b ≠ 11 → b ≠ 44 → b ≠ 45 → b ≠ 46 → g1 b = g b) → P (some (.int (if e = n then 0 else 1 + nI e))) (kv_wd g1 w)) : ∀ (nz i : Nat) (g1 : kv_S), i + nz = e → (kx_hq (g1 45) (g1 46) (g1 44 2) (kx_yn F0 s t i q) ∧ (∀ b, b ≠ 8 → b ≠ 11 → b ≠ 44 → b ≠ 45 → b ≠ 46 → g1 b = g b)) → kx_V E (d + 7) 120 30 [some (.ref 0), some (.int (nI n)), some (.int (nI i))] [] (kv_wd g1 w) P := by
  have s6 := hX.1.2.1
  intro nz
  induction nz with
  | zero =>
    intro i g1 hi h1
    have hkN : i = e := by omega
    subst hkN
    have hX1 : kx_X F0 F1 s t m K g1 := kx_X_cg (fun b hb => h1.2 b (by omega) (by omega) (by omega) (by omega) (by omega)) hX
    by_cases h61 : i = n
    · refine kx_st 2 (pc' := 32) (L' := [some (.ref 0), some (.int (nI n)), some (.int (nI i))]) (st' := [.int (nI n), .int (nI i)]) (h' := kv_wd g1 w) rfl ?_
      refine kx_bi (t := 85) rfl rfl (fun (h32 : nI n ≤ nI i) => ?_) (fun (h32 : ¬ (nI n ≤ nI i)) => ?_)
      · refine kx_st 1 (pc' := 86) (L' := [some (.ref 0), some (.int (nI n)), some (.int (nI i))]) (st' := [.int 0]) (h' := kv_wd g1 w) rfl ?_
        refine kx_ret (v := some (.int 0)) rfl ?_
        have := hP g1 h1.2
        rw [if_pos h61] at this
        exact this
      · exact absurd (nI_le (a := n) (b := i) (by omega) (by omega)) h32
    · refine kx_st 2 (pc' := 32) (L' := [some (.ref 0), some (.int (nI n)), some (.int (nI i))]) (st' := [.int (nI n), .int (nI i)]) (h' := kv_wd g1 w) rfl ?_
      refine kx_bi (t := 85) rfl rfl (fun (h32 : nI n ≤ nI i) => ?_) (fun (h32 : ¬ (nI n ≤ nI i)) => ?_)
      · exact absurd h32 (nI_ge (a := i) (b := n) (by omega) (by omega))
      · refine kx_st 0 (pc' := 35) (L' := [some (.ref 0), some (.int (nI n)), some (.int (nI i))]) (st' := []) (h' := kv_wd g1 w) rfl ?_
        refine kx_st 4 (pc' := 43) (L' := [some (.ref 0), some (.int (nI n)), some (.int (nI i))]) (st' := [.ref 1, .ref 43]) (h' := kv_wd g1 w) rfl ?_
        obtain ⟨g2, eg, k1, k2⟩ := ev_goOn (E := E) (d := d) (g := g1) (w := w) hX1 _ h1.1
        have G2 : ∀ b, b ≠ 8 → b ≠ 11 → b ≠ 44 → b ≠ 45 → b ≠ 46 → g2 b = g b := fun b b1 b2 b3 b4 b5 => (k2 b b1 b3 b4 b5).trans (h1.2 b b1 b2 b3 b4 b5)
        have eS : kx_sum (fun j => g2 45 j + g2 46 j) s = kx_sum (fun z => (kx_yn F0 s t (i + 1) q).1 z + (kx_yn F0 s t (i + 1) q).2.1 z) s := kx_sum_congr (fun j hj => by rw [(k1.1 j (by omega)).1, (k1.1 j (by omega)).2]; rfl)
        refine kx_call (z := 61) (as := [.ref 43, .ref 1]) (rest := []) (v := none) (h1 := kv_wd g2 w) rfl eg ?_
        refine kx_st 0 (pc' := 46) (L' := [some (.ref 0), some (.int (nI n)), some (.int (nI i))]) (st' := []) (h' := kv_wd g2 w) rfl ?_
        refine kx_st 4 (pc' := 54) (L' := [some (.ref 0), some (.int (nI n)), some (.int (nI i))]) (st' := [.int (nI i), .ref 13]) (h' := kv_wd g2 w) rfl ?_
        refine kx_ia (k := i) rfl rfl (by decide) rfl (by omega) (by decide) ?_
        refine kx_st 6 (pc' := 69) (L' := [some (.ref 0), some (.int (nI n)), some (.int (nI i))]) (st' := [.int (g2 1 0), .ref 44, .int (g2 13 i)]) (h' := kv_wd g2 w) rfl ?_
        refine kx_call (z := 6) (as := [.ref 44, .int (g2 1 0)]) (rest := [.int (g2 13 i)]) (v := some (.int (kx_sum (fun z => (kx_yn F0 s t (i + 1) q).1 z + (kx_yn F0 s t (i + 1) q).2.1 z) s))) (h1 := kv_wd g2 w) rfl (by rw [G2 1 (by omega) (by omega) (by omega) (by omega) (by omega), hX.2.1.1]; have := ev_together (E := E) (d := d + 6) (g := g2) (w := w) kv_hd44 s s6; rw [eS] at this; exact this) ?_
        refine kx_st 0 (pc' := 72) (L' := [some (.ref 0), some (.int (nI n)), some (.int (nI i))]) (st' := [.int (kx_sum (fun z => (kx_yn F0 s t (i + 1) q).1 z + (kx_yn F0 s t (i + 1) q).2.1 z) s), .int (g2 13 i)]) (h' := kv_wd g2 w) rfl ?_
        refine kx_bi (t := 79) rfl rfl (fun (h72 : g2 13 i = kx_sum (fun z => (kx_yn F0 s t (i + 1) q).1 z + (kx_yn F0 s t (i + 1) q).2.1 z) s) => ?_) (fun (h72 : ¬ (g2 13 i = kx_sum (fun z => (kx_yn F0 s t (i + 1) q).1 z + (kx_yn F0 s t (i + 1) q).2.1 z) s)) => ?_)
        · exact absurd (by rw [← (show g2 13 i = W i by rw [G2 13 (by omega) (by omega) (by omega) (by omega) (by omega)]; exact hW i (by omega))]; exact h72) (hx.resolve_left h61)
        · refine kx_st 0 (pc' := 75) (L' := [some (.ref 0), some (.int (nI n)), some (.int (nI i))]) (st' := []) (h' := kv_wd g2 w) rfl ?_
          refine kx_st 3 (pc' := 78) (L' := [some (.ref 0), some (.int (nI n)), some (.int (nI i))]) (st' := [.int (1 + (nI i))]) (h' := kv_wd g2 w) rfl ?_
          refine kx_ret (v := some (.int (1 + (nI i)))) rfl ?_
          have := hP g2 G2
          rw [if_neg h61] at this
          exact this
  | succ nz ih =>
    intro i g1 hi h1
    have hX1 : kx_X F0 F1 s t m K g1 := kx_X_cg (fun b hb => h1.2 b (by omega) (by omega) (by omega) (by omega) (by omega)) hX
    refine kx_st 2 (pc' := 32) (L' := [some (.ref 0), some (.int (nI n)), some (.int (nI i))]) (st' := [.int (nI n), .int (nI i)]) (h' := kv_wd g1 w) rfl ?_
    refine kx_bi (t := 85) rfl rfl (fun (h32 : nI n ≤ nI i) => ?_) (fun (h32 : ¬ (nI n ≤ nI i)) => ?_)
    · exact absurd h32 (nI_ge (a := i) (b := n) (by omega) (by omega))
    · refine kx_st 0 (pc' := 35) (L' := [some (.ref 0), some (.int (nI n)), some (.int (nI i))]) (st' := []) (h' := kv_wd g1 w) rfl ?_
      refine kx_st 4 (pc' := 43) (L' := [some (.ref 0), some (.int (nI n)), some (.int (nI i))]) (st' := [.ref 1, .ref 43]) (h' := kv_wd g1 w) rfl ?_
      obtain ⟨g2, eg, k1, k2⟩ := ev_goOn (E := E) (d := d) (g := g1) (w := w) hX1 _ h1.1
      have G2 : ∀ b, b ≠ 8 → b ≠ 11 → b ≠ 44 → b ≠ 45 → b ≠ 46 → g2 b = g b := fun b b1 b2 b3 b4 b5 => (k2 b b1 b3 b4 b5).trans (h1.2 b b1 b2 b3 b4 b5)
      have eS : kx_sum (fun j => g2 45 j + g2 46 j) s = kx_sum (fun z => (kx_yn F0 s t (i + 1) q).1 z + (kx_yn F0 s t (i + 1) q).2.1 z) s := kx_sum_congr (fun j hj => by rw [(k1.1 j (by omega)).1, (k1.1 j (by omega)).2]; rfl)
      refine kx_call (z := 61) (as := [.ref 43, .ref 1]) (rest := []) (v := none) (h1 := kv_wd g2 w) rfl eg ?_
      refine kx_st 0 (pc' := 46) (L' := [some (.ref 0), some (.int (nI n)), some (.int (nI i))]) (st' := []) (h' := kv_wd g2 w) rfl ?_
      refine kx_st 4 (pc' := 54) (L' := [some (.ref 0), some (.int (nI n)), some (.int (nI i))]) (st' := [.int (nI i), .ref 13]) (h' := kv_wd g2 w) rfl ?_
      refine kx_ia (k := i) rfl rfl (by decide) rfl (by omega) (by decide) ?_
      refine kx_st 6 (pc' := 69) (L' := [some (.ref 0), some (.int (nI n)), some (.int (nI i))]) (st' := [.int (g2 1 0), .ref 44, .int (g2 13 i)]) (h' := kv_wd g2 w) rfl ?_
      refine kx_call (z := 6) (as := [.ref 44, .int (g2 1 0)]) (rest := [.int (g2 13 i)]) (v := some (.int (kx_sum (fun z => (kx_yn F0 s t (i + 1) q).1 z + (kx_yn F0 s t (i + 1) q).2.1 z) s))) (h1 := kv_wd g2 w) rfl (by rw [G2 1 (by omega) (by omega) (by omega) (by omega) (by omega), hX.2.1.1]; have := ev_together (E := E) (d := d + 6) (g := g2) (w := w) kv_hd44 s s6; rw [eS] at this; exact this) ?_
      refine kx_st 0 (pc' := 72) (L' := [some (.ref 0), some (.int (nI n)), some (.int (nI i))]) (st' := [.int (kx_sum (fun z => (kx_yn F0 s t (i + 1) q).1 z + (kx_yn F0 s t (i + 1) q).2.1 z) s), .int (g2 13 i)]) (h' := kv_wd g2 w) rfl ?_
      refine kx_bi (t := 79) rfl rfl (fun (h72 : g2 13 i = kx_sum (fun z => (kx_yn F0 s t (i + 1) q).1 z + (kx_yn F0 s t (i + 1) q).2.1 z) s) => ?_) (fun (h72 : ¬ (g2 13 i = kx_sum (fun z => (kx_yn F0 s t (i + 1) q).1 z + (kx_yn F0 s t (i + 1) q).2.1 z) s)) => ?_)
      · refine kx_st 2 (pc' := 30) (L' := [some (.ref 0), some (.int (nI n)), some (.int ((nI i) + 1))]) (st' := []) (h' := kv_wd g2 w) rfl ?_
        rw [← nI_succ]
        exact ih (i + 1) g2 (by omega) ⟨k1, G2⟩
      · exact absurd (by rw [(show g2 13 i = W i by rw [G2 13 (by omega) (by omega) (by omega) (by omega) (by omega)]; exact hW i (by omega))]; exact hp i (by omega)) h72
set_option maxRecDepth 100000 in
theorem lp_mcheck {E : kv_V} {d : Nat} {w : kv_W} {F0 F1 : kx_FF} {s t m : Nat} {K : Nat → Nat → Int32} (q : kx_Q) (g : kv_S) (hM : kx_M F0 F1 s t m K (g 66)) (n e : Nat) (n20 : n ≤ 20) (he : e ≤ n) (W : Nat → Int32) (hW : ∀ j, j < n → g 66 (148 + j) = W j) (hp : ∀ j, j < e → W j = kx_sum (fun z => (kx_yn F0 s t (j + 1) q).1 z + (kx_yn F0 s t (j + 1) q).2.1 z) s) (hx : e = n ∨ ¬ W e = kx_sum (fun z => (kx_yn F0 s t (e + 1) q).1 z + (kx_yn F0 s t (e + 1) q).2.1 z) s) {P : Option Value → kv_H → Prop} (hP : ∀ (g1 : kv_S), ((∀ b, b ≠ 65 → b ≠ 66 → g1 b = g b) ∧ ∀ k, (k < 7 ∨ 14 < k) → g1 65 k = g 65 k) → kx_V E (d + 101) 219 81 [some (.ref 65), some (.int (nI n)), some (.int (nI e)), some (.int (if e = n then 1 else 0))] [] (kv_wd g1 w) P) : ∀ (nz i : Nat) (g1 : kv_S), i + nz = e → (kx_hmq (g1 66) (kx_yn F0 s t i q) ∧ (∀ j, 0 < j → (j < 8 ∨ 20 ≤ j) → g1 66 j = g 66 j) ∧ (∀ b, b ≠ 65 → b ≠ 66 → g1 b = g b) ∧ ∀ k, (k < 7 ∨ 14 < k) → g1 65 k = g 65 k) → kx_V E (d + 101) 219 30 [some (.ref 65), some (.int (nI n)), some (.int (nI i)), some (.int 1)] [] (kv_wd g1 w) P := by
  have s6 := hM.1.2.1
  intro nz
  induction nz with
  | zero =>
    intro i g1 hi h1
    have hkN : i = e := by omega
    subst hkN
    have hM1 : kx_M F0 F1 s t m K (g1 66) := kx_M_cg (fun j hj j0 _ => h1.2.1 j j0 hj) hM
    by_cases h61 : i = n
    · refine kx_st 2 (pc' := 32) (L' := [some (.ref 65), some (.int (nI n)), some (.int (nI i)), some (.int 1)]) (st' := [.int (nI n), .int (nI i)]) (h' := kv_wd g1 w) rfl ?_
      refine kx_bi (t := 81) rfl rfl (fun (h32 : nI n ≤ nI i) => ?_) (fun (h32 : ¬ (nI n ≤ nI i)) => ?_)
      · have := hP g1 h1.2.2
        rw [if_pos h61] at this
        exact this
      · exact absurd (nI_le (a := n) (b := i) (by omega) (by omega)) h32
    · refine kx_st 2 (pc' := 32) (L' := [some (.ref 65), some (.int (nI n)), some (.int (nI i)), some (.int 1)]) (st' := [.int (nI n), .int (nI i)]) (h' := kv_wd g1 w) rfl ?_
      refine kx_bi (t := 81) rfl rfl (fun (h32 : nI n ≤ nI i) => ?_) (fun (h32 : ¬ (nI n ≤ nI i)) => ?_)
      · exact absurd h32 (nI_ge (a := i) (b := n) (by omega) (by omega))
      · refine kx_st 0 (pc' := 35) (L' := [some (.ref 65), some (.int (nI n)), some (.int (nI i)), some (.int 1)]) (st' := []) (h' := kv_wd g1 w) rfl ?_
        refine kx_st 1 (pc' := 36) (L' := [some (.ref 65), some (.int (nI n)), some (.int (nI i)), some (.int 1)]) (st' := [.int 1]) (h' := kv_wd g1 w) rfl ?_
        refine kx_st 1 (pc' := 39) (L' := [some (.ref 65), some (.int (nI n)), some (.int (nI i)), some (.int 1)]) (st' := []) (h' := kv_wd g1 w) rfl ?_
        refine kx_st 1 (pc' := 40) (L' := [some (.ref 65), some (.int (nI n)), some (.int (nI i)), some (.int 1)]) (st' := [.ref 65]) (h' := kv_wd g1 w) rfl ?_
        obtain ⟨g2, eg, k1, k2, k3, k4⟩ := ev_oneYear (E := E) (d := d) (g := g1) (w := w) hM1 _ h1.1
        have G2 : (∀ b, b ≠ 65 → b ≠ 66 → g2 b = g b) ∧ ∀ k, (k < 7 ∨ 14 < k) → g2 65 k = g 65 k := ⟨fun b b1 b2 => (k3 b b1 b2).trans (h1.2.2.1 b b1 b2), fun z hz => (k4 z hz).trans (h1.2.2.2 z hz)⟩
        have G6 : ∀ j, 0 < j → (j < 8 ∨ 20 ≤ j) → g2 66 j = g 66 j := fun j j0 hj => (k2 j j0 hj).trans (h1.2.1 j j0 hj)
        have eS : kx_sum (fun j => g2 66 (8 + j) + g2 66 (14 + j)) s = kx_sum (fun z => (kx_yn F0 s t (i + 1) q).1 z + (kx_yn F0 s t (i + 1) q).2.1 z) s := kx_sum_congr (fun j hj => by rw [show g2 66 (8 + j) = _ from (k1.1 j (by omega)).1, show g2 66 (14 + j) = _ from (k1.1 j (by omega)).2]; rfl)
        refine kx_call (z := 178) (as := [.ref 65]) (rest := []) (v := none) (h1 := kv_wd g2 w) rfl eg ?_
        refine kx_st 0 (pc' := 43) (L' := [some (.ref 65), some (.int (nI n)), some (.int (nI i)), some (.int 1)]) (st' := []) (h' := kv_wd g2 w) rfl ?_
        refine kx_st 1 (pc' := 44) (L' := [some (.ref 65), some (.int (nI n)), some (.int (nI i)), some (.int 1)]) (st' := [.ref 65]) (h' := kv_wd g2 w) rfl ?_
        refine kx_call (z := 180) (as := [.ref 65]) (rest := []) (v := some (.int (kx_sum (fun z => (kx_yn F0 s t (i + 1) q).1 z + (kx_yn F0 s t (i + 1) q).2.1 z) s))) (h1 := kv_wd g2 w) rfl (by have := ev_hands (E := E) (d := d + 99) (g := g2) (w := w) s s6 (by rw [G6 3 (by omega) (by omega)]; exact hM.2.1.1); rw [eS] at this; exact this) ?_
        refine kx_st 0 (pc' := 47) (L' := [some (.ref 65), some (.int (nI n)), some (.int (nI i)), some (.int 1)]) (st' := [.int (kx_sum (fun z => (kx_yn F0 s t (i + 1) q).1 z + (kx_yn F0 s t (i + 1) q).2.1 z) s)]) (h' := kv_wd g2 w) rfl ?_
        refine kx_st 5 (pc' := 56) (L' := [some (.ref 65), some (.int (nI n)), some (.int (nI i)), some (.int 1)]) (st' := [.int (148 + (nI i)), .ref 66, .int (kx_sum (fun z => (kx_yn F0 s t (i + 1) q).1 z + (kx_yn F0 s t (i + 1) q).2.1 z) s)]) (h' := kv_wd g2 w) rfl ?_
        refine kx_ia (k := (148 + i)) rfl rfl (by decide) (kx_nadd 148 i) (by omega) (by decide) ?_
        refine kx_bi (t := 64) rfl rfl (fun (h57 : ¬ kx_sum (fun z => (kx_yn F0 s t (i + 1) q).1 z + (kx_yn F0 s t (i + 1) q).2.1 z) s = g2 66 (148 + i)) => ?_) (fun (h57 : ¬ (¬ kx_sum (fun z => (kx_yn F0 s t (i + 1) q).1 z + (kx_yn F0 s t (i + 1) q).2.1 z) s = g2 66 (148 + i))) => ?_)
        · refine kx_st 4 (pc' := 68) (L' := [some (.ref 65), some (.int (nI n)), some (.int (nI i)), some (.int 0)]) (st' := [.int 0, .int (nI i)]) (h' := kv_wd g2 w) rfl ?_
          refine kx_st 1 (pc' := 75) (L' := [some (.ref 65), some (.int (nI n)), some (.int (nI i)), some (.int 0)]) (st' := [.int (nI i)]) (h' := kv_wd g2 w) rfl ?_
          refine kx_st 4 (pc' := 30) (L' := [some (.ref 65), some (.int (nI n)), some (.int ((nI i) + 0)), some (.int 0)]) (st' := []) (h' := kv_wd g2 w) rfl ?_
          rw [show nI i + 0 = nI i by grind]
          refine kx_st 2 (pc' := 32) (L' := [some (.ref 65), some (.int (nI n)), some (.int (nI i)), some (.int 0)]) (st' := [.int (nI n), .int (nI i)]) (h' := kv_wd g2 w) rfl ?_
          refine kx_bi (t := 81) rfl rfl (fun (y32 : nI n ≤ nI i) => ?_) (fun (y32 : ¬ (nI n ≤ nI i)) => ?_)
          · exact absurd y32 (nI_ge (a := i) (b := n) (by omega) (by omega))
          · refine kx_st 0 (pc' := 35) (L' := [some (.ref 65), some (.int (nI n)), some (.int (nI i)), some (.int 0)]) (st' := []) (h' := kv_wd g2 w) rfl ?_
            refine kx_st 1 (pc' := 36) (L' := [some (.ref 65), some (.int (nI n)), some (.int (nI i)), some (.int 0)]) (st' := [.int 0]) (h' := kv_wd g2 w) rfl ?_
            refine kx_st 1 (pc' := 81) (L' := [some (.ref 65), some (.int (nI n)), some (.int (nI i)), some (.int 0)]) (st' := []) (h' := kv_wd g2 w) rfl ?_
            have := hP g2 G2
            rw [if_neg h61] at this
            exact this
        · exact absurd (by rw [← (show g2 66 (148 + i) = W i by rw [G6 _ (by omega) (by omega)]; exact hW i (by omega))]; exact (Classical.not_not.mp h57).symm) (hx.resolve_left h61)
  | succ nz ih =>
    intro i g1 hi h1
    have hM1 : kx_M F0 F1 s t m K (g1 66) := kx_M_cg (fun j hj j0 _ => h1.2.1 j j0 hj) hM
    refine kx_st 2 (pc' := 32) (L' := [some (.ref 65), some (.int (nI n)), some (.int (nI i)), some (.int 1)]) (st' := [.int (nI n), .int (nI i)]) (h' := kv_wd g1 w) rfl ?_
    refine kx_bi (t := 81) rfl rfl (fun (h32 : nI n ≤ nI i) => ?_) (fun (h32 : ¬ (nI n ≤ nI i)) => ?_)
    · exact absurd h32 (nI_ge (a := i) (b := n) (by omega) (by omega))
    · refine kx_st 0 (pc' := 35) (L' := [some (.ref 65), some (.int (nI n)), some (.int (nI i)), some (.int 1)]) (st' := []) (h' := kv_wd g1 w) rfl ?_
      refine kx_st 1 (pc' := 36) (L' := [some (.ref 65), some (.int (nI n)), some (.int (nI i)), some (.int 1)]) (st' := [.int 1]) (h' := kv_wd g1 w) rfl ?_
      refine kx_st 1 (pc' := 39) (L' := [some (.ref 65), some (.int (nI n)), some (.int (nI i)), some (.int 1)]) (st' := []) (h' := kv_wd g1 w) rfl ?_
      refine kx_st 1 (pc' := 40) (L' := [some (.ref 65), some (.int (nI n)), some (.int (nI i)), some (.int 1)]) (st' := [.ref 65]) (h' := kv_wd g1 w) rfl ?_
      obtain ⟨g2, eg, k1, k2, k3, k4⟩ := ev_oneYear (E := E) (d := d) (g := g1) (w := w) hM1 _ h1.1
      have G2 : (∀ b, b ≠ 65 → b ≠ 66 → g2 b = g b) ∧ ∀ k, (k < 7 ∨ 14 < k) → g2 65 k = g 65 k := ⟨fun b b1 b2 => (k3 b b1 b2).trans (h1.2.2.1 b b1 b2), fun z hz => (k4 z hz).trans (h1.2.2.2 z hz)⟩
      have G6 : ∀ j, 0 < j → (j < 8 ∨ 20 ≤ j) → g2 66 j = g 66 j := fun j j0 hj => (k2 j j0 hj).trans (h1.2.1 j j0 hj)
      have eS : kx_sum (fun j => g2 66 (8 + j) + g2 66 (14 + j)) s = kx_sum (fun z => (kx_yn F0 s t (i + 1) q).1 z + (kx_yn F0 s t (i + 1) q).2.1 z) s := kx_sum_congr (fun j hj => by rw [show g2 66 (8 + j) = _ from (k1.1 j (by omega)).1, show g2 66 (14 + j) = _ from (k1.1 j (by omega)).2]; rfl)
      refine kx_call (z := 178) (as := [.ref 65]) (rest := []) (v := none) (h1 := kv_wd g2 w) rfl eg ?_
      refine kx_st 0 (pc' := 43) (L' := [some (.ref 65), some (.int (nI n)), some (.int (nI i)), some (.int 1)]) (st' := []) (h' := kv_wd g2 w) rfl ?_
      refine kx_st 1 (pc' := 44) (L' := [some (.ref 65), some (.int (nI n)), some (.int (nI i)), some (.int 1)]) (st' := [.ref 65]) (h' := kv_wd g2 w) rfl ?_
      refine kx_call (z := 180) (as := [.ref 65]) (rest := []) (v := some (.int (kx_sum (fun z => (kx_yn F0 s t (i + 1) q).1 z + (kx_yn F0 s t (i + 1) q).2.1 z) s))) (h1 := kv_wd g2 w) rfl (by have := ev_hands (E := E) (d := d + 99) (g := g2) (w := w) s s6 (by rw [G6 3 (by omega) (by omega)]; exact hM.2.1.1); rw [eS] at this; exact this) ?_
      refine kx_st 0 (pc' := 47) (L' := [some (.ref 65), some (.int (nI n)), some (.int (nI i)), some (.int 1)]) (st' := [.int (kx_sum (fun z => (kx_yn F0 s t (i + 1) q).1 z + (kx_yn F0 s t (i + 1) q).2.1 z) s)]) (h' := kv_wd g2 w) rfl ?_
      refine kx_st 5 (pc' := 56) (L' := [some (.ref 65), some (.int (nI n)), some (.int (nI i)), some (.int 1)]) (st' := [.int (148 + (nI i)), .ref 66, .int (kx_sum (fun z => (kx_yn F0 s t (i + 1) q).1 z + (kx_yn F0 s t (i + 1) q).2.1 z) s)]) (h' := kv_wd g2 w) rfl ?_
      refine kx_ia (k := (148 + i)) rfl rfl (by decide) (kx_nadd 148 i) (by omega) (by decide) ?_
      refine kx_bi (t := 64) rfl rfl (fun (h57 : ¬ kx_sum (fun z => (kx_yn F0 s t (i + 1) q).1 z + (kx_yn F0 s t (i + 1) q).2.1 z) s = g2 66 (148 + i)) => ?_) (fun (h57 : ¬ (¬ kx_sum (fun z => (kx_yn F0 s t (i + 1) q).1 z + (kx_yn F0 s t (i + 1) q).2.1 z) s = g2 66 (148 + i))) => ?_)
      · exact absurd (show kx_sum (fun z => (kx_yn F0 s t (i + 1) q).1 z + (kx_yn F0 s t (i + 1) q).2.1 z) s = g2 66 (148 + i) by rw [(show g2 66 (148 + i) = W i by rw [G6 _ (by omega) (by omega)]; exact hW i (by omega))]; exact (hp i (by omega)).symm) h57
      · refine kx_st 0 (pc' := 60) (L' := [some (.ref 65), some (.int (nI n)), some (.int (nI i)), some (.int 1)]) (st' := []) (h' := kv_wd g2 w) rfl ?_
        refine kx_st 5 (pc' := 68) (L' := [some (.ref 65), some (.int (nI n)), some (.int (nI i)), some (.int 1)]) (st' := [.int 1, .int (nI i)]) (h' := kv_wd g2 w) rfl ?_
        refine kx_st 1 (pc' := 71) (L' := [some (.ref 65), some (.int (nI n)), some (.int (nI i)), some (.int 1)]) (st' := [.int (nI i)]) (h' := kv_wd g2 w) rfl ?_
        refine kx_st 5 (pc' := 30) (L' := [some (.ref 65), some (.int (nI n)), some (.int ((nI i) + 1)), some (.int 1)]) (st' := []) (h' := kv_wd g2 w) rfl ?_
        rw [← nI_succ]
        exact ih (i + 1) g2 (by omega) ⟨k1, G6, G2⟩
theorem kx_Rl_w0 {g : kv_S} {w : kv_W} {i : Nat} (h : kx_Rl kx_L g w i) : kx_Rl kx_L (kv_up (kv_up g 1 10 0) 66 5 0) w (i + 1) := by
  obtain ⟨Q, cu, ⟨H1, H2, H3, H4, H5, hz, l0, l1⟩, im, sh, tr, er⟩ := id h
  have e66 : ∀ j, j ≠ 5 → kv_up (kv_up g 1 10 0) 66 5 0 66 j = g 66 j := fun j hj => kx_upn hj
  have e1 : ∀ j, j ≠ 10 → kv_up (kv_up g 1 10 0) 66 5 0 1 j = g 1 j := fun j hj => kx_upn hj
  have f : ∀ b, b ≠ 1 → b ≠ 66 → kv_up (kv_up g 1 10 0) 66 5 0 b = g b := fun b b1 b2 => by rw [kv_up_ne b2, kv_up_ne b1]
  refine kx_Rl_hn h Q (fun b b1 b2 => f b (by omega) (by omega)) (fun _ _ => rfl) ⟨rfl, rfl⟩ (kx_hn_mk h.2.2.1 (kx_H1_cg (e1 0 (by omega)) (e1 1 (by omega)) (e1 4 (by omega)) (fun j hj => e66 j (by omega)) (fun k c hk hc => by rw [kx_kn_at hk, kx_kn_at hk, f _ (by omega) (by omega)]) H1) (kx_H2_cg (fun _ _ => rfl) (fun _ _ => rfl) (fun j hj => e66 j (by omega)) H2) (kx_H3_cg rfl (e66 0 (by omega)) H3) (kx_H4_cg (e1 8 (by omega)) (fun _ _ => rfl) (fun j hj => e66 j (by omega)) H4) ⟨0, by omega, rfl, rfl, fun j hj => by omega⟩ ((e1 11 (by omega)).trans (hz.trans (e66 1 (by omega)).symm)) ⟨rfl, rfl, rfl, rfl⟩ (fun j hj => e66 j (by omega)))
set_option maxRecDepth 100000 in
theorem pr_check {E : kv_V} : kx_ok2 E (kx_Rl kx_L) 120 219 [] := by
  intro g w i hR hi
  obtain ⟨F0, F1, s, t, m, K, hF0, hF1, hX, hM, hKB, hKe⟩ := kx_Rl_XMK hR
  obtain ⟨q0, hq0, hm0, hb0, hy0⟩ := kx_Rl_q hR
  have q := hR.1
  have b1 := hX.2.1.1
  have b2 := hM.2.1.1
  have a1 := hX.1.1
  have a2 := hX.1.2.1
  have a4 := hX.1.2.2.2
  have d1 := hX.2.1.2.2
  have d2 := hM.2.1.2
  obtain ⟨n, n20, w1, w2, w3⟩ := hR.2.2.1.2.2.2.2.1
  obtain ⟨e, he, hp, hx⟩ := kx_first (fun j => g 66 (148 + j) = kx_sum (fun z => (kx_yn F0 s t (j + 1) q0).1 z + (kx_yn F0 s t (j + 1) q0).2.1 z) s) n
  have R0 : kx_Rl kx_L (kv_up (kv_up g 1 10 0) 66 5 0) w (i + 1) := kx_Rl_w0 hR
  refine kx_two (by decide) (Nat.le_of_ble_eq_true rfl) (by decide) (Nat.le_of_ble_eq_true rfl) ?_
  refine kx_st 0 (pc' := 0) (L' := [some (.ref 0), none, none]) (st' := []) (h' := kv_wd g w) rfl ?_
  refine kx_st 7 (pc' := 13) (L' := [some (.ref 0), some (.int (g 1 10)), none]) (st' := [.int 0, .ref 1]) (h' := kv_wd g w) rfl ?_
  refine kx_pf (i := 303) (k := 10) (x := 0) rfl rfl (by decide) rfl (Nat.le_of_ble_eq_true rfl) rfl rfl rfl ?_
  refine kx_st 5 (pc' := 25) (L' := [some (.ref 0), some (.int (g 1 10)), none]) (st' := [.int 0, .ref 1, .ref 43]) (h' := kv_wd (kv_up g 1 10 0) w) rfl ?_
  have hX0 : kx_X F0 F1 s t m K (kv_up g 1 10 0) := by
    obtain ⟨u0, ⟨u1, u2, u3⟩, u4, u5, u6⟩ := hX
    exact ⟨u0, ⟨u1, u2, u3⟩, u4, u5, fun k hk c hc => by rw [kv_up_ne (by omega)]; exact u6 k hk c hc⟩
  obtain ⟨g25, e25, q25, r25⟩ := ev_goBehind (E := E) (d := 891) (g := kv_up g 1 10 0) (w := w) hX0 q0 hq0 0 (by omega)
  refine kx_call (z := 60) (as := [.ref 43, .ref 1, .int 0]) (rest := []) (v := none) (h1 := kv_wd g25 w) rfl e25 ?_
  refine kx_st 0 (pc' := 28) (L' := [some (.ref 0), some (.int (g 1 10)), none]) (st' := []) (h' := kv_wd g25 w) rfl ?_
  refine kx_st 2 (pc' := 30) (L' := [some (.ref 0), some (.int (g 1 10)), some (.int 0)]) (st' := []) (h' := kv_wd g25 w) rfl ?_
  have w1g : g 1 10 = nI n := w1
  rw [w1g]
  refine lp_xcheck (d := 892) q0 (kv_up g 1 10 0) hX0 n e n20 he (fun j => g 66 (148 + j)) (fun j hj => w3 j hj) hp hx (fun g36 r36 => ?_) e 0 g25 (by omega) ⟨q25, fun b b1 b2 b3 b4 b5 => r25 b b1 b3 b4 b5⟩
  refine ⟨_, _, _, rfl, rfl, ?_⟩
  refine kx_st 0 (pc' := 0) (L' := [some (.ref 65), none, none, none]) (st' := []) (h' := kv_wd g36 w) rfl ?_
  refine kx_st 3 (pc' := 5) (L' := [some (.ref 65), none, none, none]) (st' := [.int 5, .ref 66]) (h' := kv_wd g36 w) rfl ?_
  refine kx_ia (k := 5) rfl rfl (by decide) rfl (by decide) (by decide) ?_
  refine kx_st 5 (pc' := 13) (L' := [some (.ref 65), some (.int (g36 66 5)), none, none]) (st' := [.int 0, .int 5, .ref 66]) (h' := kv_wd g36 w) rfl ?_
  refine kx_is (k := 5) rfl rfl (by decide) rfl (by decide) (by decide) ?_
  refine kx_st 5 (pc' := 23) (L' := [some (.ref 65), some (.int (g36 66 5)), none, none]) (st' := [.ref 68, .ref 66, .ref 65]) (h' := kv_wd (kv_up g36 66 5 0) w) rfl ?_
  refine kx_call (z := 133) (as := [.ref 65, .ref 66, .ref 68]) (rest := []) (v := none) (h1 := kv_wd (kv_uf (kv_up g36 66 5 0) 68 (kx_mv ((kv_up g36 66 5 0) 66) ((kv_up g36 66 5 0) 68) 268)) w) rfl (ev_moveAll (d := 898) (a := 66) (b := 68) rfl rfl (by decide) (by decide) (by decide)) ?_
  refine kx_st 0 (pc' := 26) (L' := [some (.ref 65), some (.int (g36 66 5)), none, none]) (st' := []) (h' := kv_wd (kv_uf (kv_up g36 66 5 0) 68 (kx_mv ((kv_up g36 66 5 0) 66) ((kv_up g36 66 5 0) 68) 268)) w) rfl ?_
  refine kx_st 4 (pc' := 30) (L' := [some (.ref 65), some (.int (g36 66 5)), some (.int 0), some (.int 1)]) (st' := []) (h' := kv_wd (kv_uf (kv_up g36 66 5 0) 68 (kx_mv ((kv_up g36 66 5 0) 66) ((kv_up g36 66 5 0) 68) 268)) w) rfl ?_
  have g5 : g36 66 5 = nI n := by rw [(r36 66 (by omega) (by omega) (by omega) (by omega) (by omega))]; exact w2
  rw [g5]
  have e36 : ∀ j, j ≠ 5 → (kv_up g36 66 5 0) 66 j = g 66 j := fun j hj => (kx_upn hj).trans (congrFun (r36 66 (by omega) (by omega) (by omega) (by omega) (by omega)) j)
  have M36 : kx_M F0 F1 s t m K ((kv_up g36 66 5 0) 66) := by
    obtain ⟨u0, ⟨u1, u2⟩, u3, ⟨u4, u5⟩, u6⟩ := hM
    exact ⟨u0, ⟨(e36 3 (by omega)).trans u1, (e36 2 (by omega)).trans u2⟩, fun p hp => (e36 _ (by omega)).trans (u3 p hp), ⟨kx_Lm_cg (e36 6 (by omega)) (fun j hj => e36 _ (by omega)) u4, kx_Lm_cg (e36 7 (by omega)) (fun j hj => e36 _ (by omega)) u5⟩, fun k hk c hc => (e36 _ (by omega)).trans (u6 k hk c hc)⟩
  have m36 : kx_hmq ((kv_up g36 66 5 0) 66) q0 := ⟨fun p hp => ⟨(e36 _ (by omega)).trans (hm0.1 p hp).1, (e36 _ (by omega)).trans (hm0.1 p hp).2⟩, (e36 0 (by omega)).trans hm0.2⟩
  refine lp_mcheck (d := 798) q0 (kv_uf (kv_up g36 66 5 0) 68 (kx_mv ((kv_up g36 66 5 0) 66) ((kv_up g36 66 5 0) 68) 268)) M36 n e n20 he (fun j => g 66 (148 + j)) (fun j hj => e36 _ (by omega)) hp hx (fun g31 r31 => ?_) e 0 (kv_uf (kv_up g36 66 5 0) 68 (kx_mv ((kv_up g36 66 5 0) 66) ((kv_up g36 66 5 0) 68) 268)) (by omega) ⟨m36, fun _ _ _ => rfl, fun _ _ _ => rfl, fun _ _ => rfl⟩
  by_cases hen : e = n
  · rw [if_pos hen]
    refine kx_st 0 (pc' := 81) (L' := [some (.ref 65), some (.int (nI n)), some (.int (nI e)), some (.int 1)]) (st' := []) (h' := kv_wd g31 w) rfl ?_
    refine kx_st 5 (pc' := 90) (L' := [some (.ref 65), some (.int (nI n)), some (.int (nI e)), some (.int 1)]) (st' := [.ref 66, .ref 68, .ref 65]) (h' := kv_wd g31 w) rfl ?_
    refine kx_call (z := 133) (as := [.ref 65, .ref 68, .ref 66]) (rest := []) (v := none) (h1 := kv_wd (kv_uf g31 66 (kx_mv (g31 68) (g31 66) 268)) w) rfl (ev_moveAll (d := 898) (a := 68) (b := 66) rfl rfl (by decide) (by decide) (by decide)) ?_
    refine kx_st 0 (pc' := 93) (L' := [some (.ref 65), some (.int (nI n)), some (.int (nI e)), some (.int 1)]) (st' := []) (h' := kv_wd (kv_uf g31 66 (kx_mv (g31 68) (g31 66) 268)) w) rfl ?_
    refine kx_st 1 (pc' := 94) (L' := [some (.ref 65), some (.int (nI n)), some (.int (nI e)), some (.int 1)]) (st' := [.int 1]) (h' := kv_wd (kv_uf g31 66 (kx_mv (g31 68) (g31 66) 268)) w) rfl ?_
    refine kx_st 1 (pc' := 97) (L' := [some (.ref 65), some (.int (nI n)), some (.int (nI e)), some (.int 1)]) (st' := []) (h' := kv_wd (kv_uf g31 66 (kx_mv (g31 68) (g31 66) 268)) w) rfl ?_
    refine kx_st 2 (pc' := 104) (L' := [some (.ref 65), some (.int (nI n)), some (.int (nI e)), some (.int 1)]) (st' := [.int 0]) (h' := kv_wd (kv_uf g31 66 (kx_mv (g31 68) (g31 66) 268)) w) rfl ?_
    refine kx_ret (v := some (.int 0)) rfl ?_
    exact ⟨by rw [if_pos hen], _, _, rfl, kx_Rl_ro R0 rfl (fun b h8 h11 h4 h65 h66 h68 h69 => by have z : (kv_uf g31 66 (kx_mv (g31 68) (g31 66) 268)) b = (kv_up g 1 10 0) b := (by rw [kv_uf_ne h66]; exact (r31.1 b h65 h66).trans (by rw [kv_uf_ne h68, kv_up_ne h66]; exact r36 b h8 h11 (by omega) (by omega) (by omega))); rw [z, kv_up_ne h66]) (fun z hz => (r31.2 z hz).trans (congrFun (r36 65 (by omega) (by omega) (by omega) (by omega) (by omega)) z)) (fun j hj => (kx_tm_end (g := kv_up g36 66 5 0) r31.1 j hj).trans (by show upd (g36 66) 5 0 j = upd (g 66) 5 0 j; rw [(r36 66 (by omega) (by omega) (by omega) (by omega) (by omega))]; rfl))⟩
  · rw [if_neg hen]
    refine kx_st 0 (pc' := 81) (L' := [some (.ref 65), some (.int (nI n)), some (.int (nI e)), some (.int 0)]) (st' := []) (h' := kv_wd g31 w) rfl ?_
    refine kx_st 5 (pc' := 90) (L' := [some (.ref 65), some (.int (nI n)), some (.int (nI e)), some (.int 0)]) (st' := [.ref 66, .ref 68, .ref 65]) (h' := kv_wd g31 w) rfl ?_
    refine kx_call (z := 133) (as := [.ref 65, .ref 68, .ref 66]) (rest := []) (v := none) (h1 := kv_wd (kv_uf g31 66 (kx_mv (g31 68) (g31 66) 268)) w) rfl (ev_moveAll (d := 898) (a := 68) (b := 66) rfl rfl (by decide) (by decide) (by decide)) ?_
    refine kx_st 0 (pc' := 93) (L' := [some (.ref 65), some (.int (nI n)), some (.int (nI e)), some (.int 0)]) (st' := []) (h' := kv_wd (kv_uf g31 66 (kx_mv (g31 68) (g31 66) 268)) w) rfl ?_
    refine kx_st 1 (pc' := 94) (L' := [some (.ref 65), some (.int (nI n)), some (.int (nI e)), some (.int 0)]) (st' := [.int 0]) (h' := kv_wd (kv_uf g31 66 (kx_mv (g31 68) (g31 66) 268)) w) rfl ?_
    refine kx_st 1 (pc' := 101) (L' := [some (.ref 65), some (.int (nI n)), some (.int (nI e)), some (.int 0)]) (st' := []) (h' := kv_wd (kv_uf g31 66 (kx_mv (g31 68) (g31 66) 268)) w) rfl ?_
    refine kx_st 3 (pc' := 104) (L' := [some (.ref 65), some (.int (nI n)), some (.int (nI e)), some (.int 0)]) (st' := [.int (1 + (nI e))]) (h' := kv_wd (kv_uf g31 66 (kx_mv (g31 68) (g31 66) 268)) w) rfl ?_
    refine kx_ret (v := some (.int (1 + (nI e)))) rfl ?_
    exact ⟨by rw [if_neg hen], _, _, rfl, kx_Rl_ro R0 rfl (fun b h8 h11 h4 h65 h66 h68 h69 => by have z : (kv_uf g31 66 (kx_mv (g31 68) (g31 66) 268)) b = (kv_up g 1 10 0) b := (by rw [kv_uf_ne h66]; exact (r31.1 b h65 h66).trans (by rw [kv_uf_ne h68, kv_up_ne h66]; exact r36 b h8 h11 (by omega) (by omega) (by omega))); rw [z, kv_up_ne h66]) (fun z hz => (r31.2 z hz).trans (congrFun (r36 65 (by omega) (by omega) (by omega) (by omega) (by omega)) z)) (fun j hj => (kx_tm_end (g := kv_up g36 66 5 0) r31.1 j hj).trans (by show upd (g36 66) 5 0 j = upd (g 66) 5 0 j; rw [(r36 66 (by omega) (by omega) (by omega) (by omega) (by omega))]; rfl))⟩
theorem kv_ufup {g : kv_S} {a b k : Nat} {x : Int32} {f : Nat → Int32} (h : a ≠ b) : kv_uf (kv_up g a k x) b f = kv_up (kv_uf g b f) a k x := by
  funext c
  by_cases h1 : c = b
  · subst h1
    rw [kv_uf_self, kv_up_ne (fun z => h z.symm), kv_uf_self]
  · rw [kv_uf_ne h1]
    by_cases h2 : c = a
    · subst h2
      rw [kv_up_at, kv_up_at, kv_uf_ne h1]
    · rw [kv_up_ne h2, kv_up_ne h2, kv_uf_ne h1]
theorem kx_orb : ∀ n, n < 256 → ∀ j, j < 8 → nI n ||| ((1 : Int32) <<< (nI j &&& 31)) = nI (n ||| 2 ^ j) := by decide +kernel
theorem kx_or_lt {T : Nat → Int32} : ∀ m, m ≤ 8 → ∃ n, n < 2 ^ m ∧ kx_or (kx_td T) m = nI n := by
  intro m
  induction m with
  | zero => intro _; exact ⟨0, by omega, rfl⟩
  | succ m ih =>
    intro hm
    obtain ⟨n, h1, h2⟩ := ih (by omega)
    have h3 : n < 2 ^ (m + 1) := by rw [Nat.pow_succ]; omega
    by_cases h : T m = 0
    · exact ⟨n, h3, by rw [kx_or, h2, kx_td_0 h, kx_or0]⟩
    · refine ⟨n ||| 2 ^ m, Nat.or_lt_two_pow h3 (Nat.pow_lt_pow_right (by omega) (by omega)), ?_⟩
      rw [kx_or, h2, kx_td_1 h]
      exact kx_orb n (Nat.lt_of_lt_of_le h1 (Nat.le_trans (Nat.pow_le_pow_right (by omega) (show m ≤ 8 by omega)) (by decide))) m (by omega)
set_option maxRecDepth 100000 in
theorem pr_undo {E : kv_V} (a b : Int32) : kx_ok2 E (kx_Rl kx_L) 85 149 [.int a, .int b] := by
  intro g w i hR hi
  obtain ⟨F0, F1, s, t, m, K, hF0, hF1, hX, hM, hKB, hKe⟩ := kx_Rl_XMK hR
  obtain ⟨q0, hq0, hm0, hb0, hy0⟩ := kx_Rl_q hR
  have q := hR.1
  have b1 := hX.2.1.1
  have b2 := hM.2.1.1
  have a1 := hX.1.1
  have a2 := hX.1.2.1
  have a4 := hX.1.2.2.2
  have d1 := hX.2.1.2.2
  have d2 := hM.2.1.2
  by_cases hv : 0 ≤ a ∧ a < nI m
  · obtain ⟨k, hkm, rfl⟩ := kx_nIlt hv.1 hv.2 (by omega)
    have hk8 : k < 8 := by omega
    have hK := hKB k hkm
    have kk : ∀ c, c < 9 → g (14 + k) c = K k c := hX.2.2.2.2 k hkm
    by_cases hp : kx_pr s b
    · obtain ⟨x, y, hx, hy, hxy, e10, e11, -⟩ := kx_pr_of a2 hp
      refine kx_two (by decide) (Nat.le_of_ble_eq_true rfl) (by decide) (Nat.le_of_ble_eq_true rfl) ?_
      refine kx_st 0 (pc' := 0) (L' := [some (.ref 0), some (.int (nI k)), some (.int b), none]) (st' := []) (h' := kv_wd g w) rfl ?_
      refine kx_st 3 (pc' := 5) (L' := [some (.ref 0), some (.int (nI k)), some (.int b), none]) (st' := [.int (nI k), .ref 1]) (h' := kv_wd g w) rfl ?_
      refine kx_call (z := 17) (as := [.ref 1, .int (nI k)]) (rest := []) (v := some (.ref (14 + k))) (h1 := kv_wd g w) rfl (ev_knotAt (d := 898) (g := g) q k hk8 (by rw [d1]; exact nI_lt hkm (by omega))) ?_
      refine kx_st 0 (pc' := 8) (L' := [some (.ref 0), some (.int (nI k)), some (.int b), none]) (st' := [.ref (14 + k)]) (h' := kv_wd g w) rfl ?_
      refine kx_st 2 (pc' := 10) (L' := [some (.ref 0), some (.int (nI k)), some (.int b), some (.ref (14 + k))]) (st' := [.ref (14 + k)]) (h' := kv_wd g w) rfl ?_
      refine kx_st 1 (pc' := 13) (L' := [some (.ref 0), some (.int (nI k)), some (.int b), some (.ref (14 + k))]) (st' := []) (h' := kv_wd g w) rfl ?_
      refine kx_st 3 (pc' := 18) (L' := [some (.ref 0), some (.int (nI k)), some (.int b), some (.ref (14 + k))]) (st' := [.int b, .ref 1]) (h' := kv_wd g w) rfl ?_
      refine kx_call (z := 12) (as := [.ref 1, .int b]) (rest := []) (v := some (.int (kx_b (kx_pr s b)))) (h1 := kv_wd g w) rfl (ev_isPairS (d := 897) (g := g) (s := s) b1 a2 b) ?_
      refine kx_st 0 (pc' := 21) (L' := [some (.ref 0), some (.int (nI k)), some (.int b), some (.ref (14 + k))]) (st' := [.int (kx_b (kx_pr s b))]) (h' := kv_wd g w) rfl ?_
      refine kx_bn (t := 30) rfl rfl (fun (h21 : (kx_pr s b)) => ?_) (fun (h21 : ¬ (kx_pr s b)) => ?_)
      · refine kx_st 3 (pc' := 33) (L' := [some (.ref 0), some (.int (nI k)), some (.int b), some (.ref (14 + k))]) (st' := [.int b, .ref (14 + k), .ref 0]) (h' := kv_wd g w) rfl ?_
        obtain ⟨g69, e69, r69⟩ := ev_canNow (E := E) (d := 890) (g := g) (w := w) hX q q0 hq0 hb0 k hkm hK b x y hx hy e10 e11
        have M69 : kx_M F0 F1 s t m K (g69 66) := by rw [r69 66 (by omega) (by omega) (by omega) (by omega) (by omega)]; exact hM
        have m69 : kx_hmq (g69 66) q0 := by rw [r69 66 (by omega) (by omega) (by omega) (by omega) (by omega)]; exact hm0
        refine kx_call (z := 128) (as := [.ref 0, .ref (14 + k), .int b]) (rest := []) (v := some (.int (kx_b (kx_fr K k ∧ kx_cn F1 t q0 (K k) x y)))) (h1 := kv_wd g69 w) rfl e69 ?_
        refine kx_st 0 (pc' := 36) (L' := [some (.ref 0), some (.int (nI k)), some (.int b), some (.ref (14 + k))]) (st' := [.int (kx_b (kx_fr K k ∧ kx_cn F1 t q0 (K k) x y))]) (h' := kv_wd g69 w) rfl ?_
        refine kx_bn (t := 45) rfl rfl (fun (h36 : (kx_fr K k ∧ kx_cn F1 t q0 (K k) x y)) => ?_) (fun (h36 : ¬ (kx_fr K k ∧ kx_cn F1 t q0 (K k) x y)) => ?_)
        · refine kx_st 2 (pc' := 47) (L' := [some (.ref 0), some (.int (nI k)), some (.int b), some (.ref (14 + k))]) (st' := [.int 0, .ref (14 + k)]) (h' := kv_wd g69 w) rfl ?_
          refine kx_pf (i := 113) (k := 7) (x := 0) rfl rfl (kv_kn_h hk8).1 ((kv_kn_h hk8).2 _ _) (Nat.le_of_ble_eq_true rfl) (by rw [(kv_kn_h hk8).2]; rfl) rfl rfl ?_
          refine kx_st 2 (pc' := 54) (L' := [some (.ref 0), some (.int (nI k)), some (.int b), some (.ref (14 + k))]) (st' := [.ref 1]) (h' := kv_wd (kv_up g69 (14 + k) 7 0) w) rfl ?_
          refine kx_call (z := 21) (as := [.ref 1]) (rest := []) (v := some (.int (kx_or (kx_td (fun a => (kv_up g69 (14 + k) 7 0) (14 + a) 7)) m))) (h1 := kv_wd (kv_up g69 (14 + k) 7 0) w) rfl (ev_tiedSet (d := 898) (g := kv_up g69 (14 + k) 7 0) q m a4 (by rw [kv_up_ne (by omega), r69 1 (by omega) (by omega) (by omega) (by omega) (by omega)]; exact d1)) ?_
          refine kx_st 0 (pc' := 57) (L' := [some (.ref 0), some (.int (nI k)), some (.int b), some (.ref (14 + k))]) (st' := [.int (kx_or (kx_td (fun a => (kv_up g69 (14 + k) 7 0) (14 + a) 7)) m)]) (h' := kv_wd (kv_up g69 (14 + k) 7 0) w) rfl ?_
          refine kx_call (z := 222) (as := [.int (kx_or (kx_td (fun a => (kv_up g69 (14 + k) 7 0) (14 + a) 7)) m)]) (rest := []) (v := some (.int (kx_bcn (kx_or (kx_td (fun a => (kv_up g69 (14 + k) 7 0) (14 + a) 7)) m)))) (h1 := kv_wd (kv_up g69 (14 + k) 7 0) w) rfl (ev_bitCount (d := 898) _) ?_
          refine kx_st 0 (pc' := 60) (L' := [some (.ref 0), some (.int (nI k)), some (.int b), some (.ref (14 + k))]) (st' := [.int (kx_bcn (kx_or (kx_td (fun a => (kv_up g69 (14 + k) 7 0) (14 + a) 7)) m))]) (h' := kv_wd (kv_up g69 (14 + k) 7 0) w) rfl ?_
          refine kx_ret (v := some (.int (kx_bcn (kx_or (kx_td (fun a => (kv_up g69 (14 + k) 7 0) (14 + a) 7)) m)))) rfl ?_
          refine ⟨_, _, _, rfl, rfl, ?_⟩
          refine kx_st 0 (pc' := 0) (L' := [some (.ref 65), some (.int (nI k)), some (.int b)]) (st' := []) (h' := kv_wd (kv_up g69 (14 + k) 7 0) w) rfl ?_
          refine kx_st 2 (pc' := 2) (L' := [some (.ref 65), some (.int (nI k)), some (.int b)]) (st' := [.int (nI k), .ref 65]) (h' := kv_wd (kv_up g69 (14 + k) 7 0) w) rfl ?_
          refine kx_call (z := 139) (as := [.ref 65, .int (nI k)]) (rest := []) (v := some (.int (kx_b (0 ≤ nI k ∧ nI k < nI m)))) (h1 := kv_wd (kv_up g69 (14 + k) 7 0) w) rfl (ev_mKnotS (d := 897) (g := kv_up g69 (14 + k) 7 0) (s := m) (show kx_M F0 F1 s t m K ((kv_up g69 (14 + k) 7 0) 66) from (by rw [kv_up_ne (by omega)]; exact M69)).2.1.2 a4 (nI k)) ?_
          refine kx_st 0 (pc' := 5) (L' := [some (.ref 65), some (.int (nI k)), some (.int b)]) (st' := [.int (kx_b (0 ≤ nI k ∧ nI k < nI m))]) (h' := kv_wd (kv_up g69 (14 + k) 7 0) w) rfl ?_
          refine kx_be (t := 16) rfl rfl (fun (m5 : ¬ (0 ≤ nI k ∧ nI k < nI m)) => ?_) (fun (m5 : (0 ≤ nI k ∧ nI k < nI m)) => ?_)
          · exact absurd hv m5
          · refine kx_st 0 (pc' := 8) (L' := [some (.ref 65), some (.int (nI k)), some (.int b)]) (st' := []) (h' := kv_wd (kv_up g69 (14 + k) 7 0) w) rfl ?_
            refine kx_st 2 (pc' := 10) (L' := [some (.ref 65), some (.int (nI k)), some (.int b)]) (st' := [.int b, .ref 65]) (h' := kv_wd (kv_up g69 (14 + k) 7 0) w) rfl ?_
            refine kx_call (z := 140) (as := [.ref 65, .int b]) (rest := []) (v := some (.int (kx_b (kx_pr s b)))) (h1 := kv_wd (kv_up g69 (14 + k) 7 0) w) rfl (ev_mPairS (d := 896) (g := kv_up g69 (14 + k) 7 0) (s := s) (show kx_M F0 F1 s t m K ((kv_up g69 (14 + k) 7 0) 66) from (by rw [kv_up_ne (by omega)]; exact M69)).2.1.1 a2 b) ?_
            refine kx_st 0 (pc' := 13) (L' := [some (.ref 65), some (.int (nI k)), some (.int b)]) (st' := [.int (kx_b (kx_pr s b))]) (h' := kv_wd (kv_up g69 (14 + k) 7 0) w) rfl ?_
            refine kx_bn (t := 23) rfl rfl (fun (m13 : (kx_pr s b)) => ?_) (fun (m13 : ¬ (kx_pr s b)) => ?_)
            · refine kx_st 2 (pc' := 25) (L' := [some (.ref 65), some (.int (nI k)), some (.int b)]) (st' := [.int (nI k), .ref 65]) (h' := kv_wd (kv_up g69 (14 + k) 7 0) w) rfl ?_
              refine kx_call (z := 173) (as := [.ref 65, .int (nI k)]) (rest := []) (v := some (.int (kx_b (kx_fr K k)))) (h1 := kv_wd (kv_up g69 (14 + k) 7 0) w) rfl (ev_isFree (d := 897) (g := kv_up g69 (14 + k) 7 0) (by rw [kv_up_ne (by omega)]; exact M69) k hkm hK) ?_
              refine kx_st 0 (pc' := 28) (L' := [some (.ref 65), some (.int (nI k)), some (.int b)]) (st' := [.int (kx_b (kx_fr K k))]) (h' := kv_wd (kv_up g69 (14 + k) 7 0) w) rfl ?_
              refine kx_be (t := 47) rfl rfl (fun (m28 : ¬ (kx_fr K k)) => ?_) (fun (m28 : (kx_fr K k)) => ?_)
              · exact absurd h36.1 m28
              · refine kx_st 0 (pc' := 31) (L' := [some (.ref 65), some (.int (nI k)), some (.int b)]) (st' := []) (h' := kv_wd (kv_up g69 (14 + k) 7 0) w) rfl ?_
                refine kx_st 4 (pc' := 36) (L' := [some (.ref 65), some (.int (nI k)), some (.int b)]) (st' := [.int 10, .int b, .int (nI k), .ref 65]) (h' := kv_wd (kv_up g69 (14 + k) 7 0) w) rfl ?_
                refine kx_dv rfl (by decide) ?_
                refine kx_st 2 (pc' := 40) (L' := [some (.ref 65), some (.int (nI k)), some (.int b)]) (st' := [.int 10, .int b, .int (b / 10), .int (nI k), .ref 65]) (h' := kv_wd (kv_up g69 (14 + k) 7 0) w) rfl ?_
                refine kx_rm rfl (by decide) ?_
                obtain ⟨f41, k41, e41⟩ := ev_canTwo (E := E) (d := 798) (g := kv_up g69 (14 + k) 7 0) (w := w) (by rw [kv_up_ne (by omega)]; exact M69) q0 (by rw [kv_up_ne (by omega)]; exact m69) k hkm hK x y hx hy
                refine kx_call (z := 174) (as := [.ref 65, .int (nI k), .int (b / 10), .int (b % 10)]) (rest := []) (v := some (.int (kx_b (kx_cn F1 t q0 (K k) x y)))) (h1 := kv_wd (kv_uf (kv_up g69 (14 + k) 7 0) 65 f41) w) rfl (by rw [e10, e11]; exact e41) ?_
                refine kx_st 0 (pc' := 44) (L' := [some (.ref 65), some (.int (nI k)), some (.int b)]) (st' := [.int (kx_b (kx_cn F1 t q0 (K k) x y))]) (h' := kv_wd (kv_uf (kv_up g69 (14 + k) 7 0) 65 f41) w) rfl ?_
                refine kx_bn (t := 54) rfl rfl (fun (m44 : (kx_cn F1 t q0 (K k) x y)) => ?_) (fun (m44 : ¬ (kx_cn F1 t q0 (K k) x y)) => ?_)
                · refine kx_st 4 (pc' := 59) (L' := [some (.ref 65), some (.int (nI k)), some (.int b)]) (st' := [.int 0, .int 7, .int (nI k), .ref 65]) (h' := kv_wd (kv_uf (kv_up g69 (14 + k) 7 0) 65 f41) w) rfl ?_
                  refine kx_call (z := 137) (as := [.ref 65, .int (nI k), .int 7, .int 0]) (rest := []) (v := none) (h1 := kv_wd (kv_up (kv_uf (kv_up g69 (14 + k) 7 0) 65 f41) 66 (26 + 9 * k + 7) 0) w) rfl (ev_gets (d := 898) k 7 (by omega) 0) ?_
                  refine kx_st 0 (pc' := 62) (L' := [some (.ref 65), some (.int (nI k)), some (.int b)]) (st' := []) (h' := kv_wd (kv_up (kv_uf (kv_up g69 (14 + k) 7 0) 65 f41) 66 (26 + 9 * k + 7) 0) w) rfl ?_
                  refine kx_st 1 (pc' := 63) (L' := [some (.ref 65), some (.int (nI k)), some (.int b)]) (st' := [.ref 65]) (h' := kv_wd (kv_up (kv_uf (kv_up g69 (14 + k) 7 0) 65 f41) 66 (26 + 9 * k + 7) 0) w) rfl ?_
                  have eT0 : kx_or (kx_td (fun a => (kv_up g69 (14 + k) 7 0) (14 + a) 7)) m = kx_or (fun a => (kv_up (kv_uf (kv_up g69 (14 + k) 7 0) 65 f41) 66 (26 + 9 * k + 7) 0) 66 (26 + 9 * a + 7) <<< (nI a &&& 31)) m := by
                    refine kx_td_eq (fun j hj => ?_)
                    have e14 : (kv_up g69 (14 + k) 7 0) (14 + j) 7 = if j = k then 0 else K j 7 := by
                      by_cases hjk : j = k
                      · subst hjk; rw [if_pos rfl, kv_up_at, kx_ups]
                      · rw [if_neg hjk, kv_up_ne (by omega), r69 (14 + j) (by omega) (by omega) (by omega) (by omega) (by omega)]; exact hX.2.2.2.2 j hj 7 (by omega)
                    have e66 : (kv_up (kv_uf (kv_up g69 (14 + k) 7 0) 65 f41) 66 (26 + 9 * k + 7) 0) 66 (26 + 9 * j + 7) = if j = k then 0 else K j 7 := by
                      rw [kv_up_at]
                      by_cases hjk : j = k
                      · subst hjk; rw [if_pos rfl, kx_ups]
                      · rw [if_neg hjk, kx_upn (by omega), kv_uf_ne (by omega), kv_up_ne (by omega)]; exact M69.2.2.2.2 j hj 7 (by omega)
                    rw [e14, e66]
                    refine ⟨rfl, ?_⟩
                    by_cases hjk : j = k
                    · rw [if_pos hjk]; exact Or.inl rfl
                    · rw [if_neg hjk]; exact kx_K_tied (hKB j hj)
                  have e63 := ev_mtiedSet (E := E) (d := 897) (g := kv_up (kv_uf (kv_up g69 (14 + k) 7 0) 65 f41) 66 (26 + 9 * k + 7) 0) (w := w) m a4 (by rw [kv_up_at, kx_upn (by omega), kv_uf_ne (by omega), kv_up_ne (by omega)]; exact M69.2.1.2)
                  rw [← eT0] at e63
                  refine kx_call (z := 148) (as := [.ref 65]) (rest := []) (v := some (.int (kx_or (kx_td (fun a => (kv_up g69 (14 + k) 7 0) (14 + a) 7)) m))) (h1 := kv_wd (kv_up (kv_uf (kv_up g69 (14 + k) 7 0) 65 f41) 66 (26 + 9 * k + 7) 0) w) rfl e63 ?_
                  refine kx_st 0 (pc' := 66) (L' := [some (.ref 65), some (.int (nI k)), some (.int b)]) (st' := [.int (kx_or (kx_td (fun a => (kv_up g69 (14 + k) 7 0) (14 + a) 7)) m)]) (h' := kv_wd (kv_up (kv_uf (kv_up g69 (14 + k) 7 0) 65 f41) 66 (26 + 9 * k + 7) 0) w) rfl ?_
                  obtain ⟨nz, nz1, nz2⟩ := kx_or_lt (T := fun a => (kv_up g69 (14 + k) 7 0) (14 + a) 7) m a4
                  have nz1 : nz < 256 := Nat.lt_of_lt_of_le nz1 (Nat.le_trans (Nat.pow_le_pow_right (by omega) a4) (by decide))
                  have eT : kx_bcn (kx_or (kx_td (fun a => (kv_up g69 (14 + k) 7 0) (14 + a) 7)) m) = kx_bcn (nI nz) := by rw [nz2]
                  refine kx_call (z := 134) (as := [.int (kx_or (kx_td (fun a => (kv_up g69 (14 + k) 7 0) (14 + a) 7)) m)]) (rest := []) (v := some (.int (kx_bcn (nI nz)))) (h1 := kv_wd (kv_up (kv_uf (kv_up g69 (14 + k) 7 0) 65 f41) 66 (26 + 9 * k + 7) 0) w) rfl (by rw [nz2]; exact ev_bits (d := 898) nz nz1) ?_
                  refine kx_st 0 (pc' := 69) (L' := [some (.ref 65), some (.int (nI k)), some (.int b)]) (st' := [.int (kx_bcn (nI nz))]) (h' := kv_wd (kv_up (kv_uf (kv_up g69 (14 + k) 7 0) 65 f41) 66 (26 + 9 * k + 7) 0) w) rfl ?_
                  refine kx_ret (v := some (.int (kx_bcn (nI nz)))) rfl ?_
                  refine ⟨by rw [eT], _, _, rfl, ?_⟩
                  rw [kv_ufup (by omega)]
                  refine kx_Rl_knot (kx_Rl_ro (g' := kv_uf g69 65 f41) hR rfl (fun b h8 h11 h4 h65 h66 h68 h69 => (kv_uf_ne h65).trans (r69 b h8 h11 (by omega) (by omega) (by omega))) (fun z hz => (k41 z hz).trans ?_) (fun j hj => congrFun (r69 66 (by omega) (by omega) (by omega) (by omega) (by omega)) j)) (by show g69 66 2 = nI m; exact M69.2.1.2) a4 hkm (by omega) (fun z => by omega) (fun z => by omega) (by omega) (fun z => by omega) (fun z => by omega) (fun _ => Or.inl rfl) (fun z => by omega)
                  rw [kv_up_ne (by omega)]
                  exact congrFun (r69 65 (by omega) (by omega) (by omega) (by omega) (by omega)) z
                · exact absurd h36.2 m44
            · exact absurd hp m13
        · refine kx_st 0 (pc' := 39) (L' := [some (.ref 0), some (.int (nI k)), some (.int b), some (.ref (14 + k))]) (st' := []) (h' := kv_wd g69 w) rfl ?_
          refine kx_st 2 (pc' := 41) (L' := [some (.ref 0), some (.int (nI k)), some (.int b), some (.ref (14 + k))]) (st' := [.int 3, .ref 0]) (h' := kv_wd g69 w) rfl ?_
          refine kx_call (z := 123) (as := [.ref 0, .int 3]) (rest := []) (v := some (.int (-1000000000 - nI 3))) (h1 := kv_wd (kv_up g69 64 3 (g69 64 3 + 1)) w) rfl (ev_error (d := 898) 3 (by decide) (by decide)) ?_
          refine kx_st 0 (pc' := 44) (L' := [some (.ref 0), some (.int (nI k)), some (.int b), some (.ref (14 + k))]) (st' := [.int (-1000000000 - nI 3)]) (h' := kv_wd (kv_up g69 64 3 (g69 64 3 + 1)) w) rfl ?_
          refine kx_ret (v := some (.int (-1000000000 - nI 3))) rfl ?_
          refine ⟨_, _, _, rfl, rfl, ?_⟩
          refine kx_st 0 (pc' := 0) (L' := [some (.ref 65), some (.int (nI k)), some (.int b)]) (st' := []) (h' := kv_wd (kv_up g69 64 3 (g69 64 3 + 1)) w) rfl ?_
          refine kx_st 2 (pc' := 2) (L' := [some (.ref 65), some (.int (nI k)), some (.int b)]) (st' := [.int (nI k), .ref 65]) (h' := kv_wd (kv_up g69 64 3 (g69 64 3 + 1)) w) rfl ?_
          refine kx_call (z := 139) (as := [.ref 65, .int (nI k)]) (rest := []) (v := some (.int (kx_b (0 ≤ nI k ∧ nI k < nI m)))) (h1 := kv_wd (kv_up g69 64 3 (g69 64 3 + 1)) w) rfl (ev_mKnotS (d := 897) (g := kv_up g69 64 3 (g69 64 3 + 1)) (s := m) (show kx_M F0 F1 s t m K ((kv_up g69 64 3 (g69 64 3 + 1)) 66) from M69).2.1.2 a4 (nI k)) ?_
          refine kx_st 0 (pc' := 5) (L' := [some (.ref 65), some (.int (nI k)), some (.int b)]) (st' := [.int (kx_b (0 ≤ nI k ∧ nI k < nI m))]) (h' := kv_wd (kv_up g69 64 3 (g69 64 3 + 1)) w) rfl ?_
          refine kx_be (t := 16) rfl rfl (fun (m5 : ¬ (0 ≤ nI k ∧ nI k < nI m)) => ?_) (fun (m5 : (0 ≤ nI k ∧ nI k < nI m)) => ?_)
          · exact absurd hv m5
          · refine kx_st 0 (pc' := 8) (L' := [some (.ref 65), some (.int (nI k)), some (.int b)]) (st' := []) (h' := kv_wd (kv_up g69 64 3 (g69 64 3 + 1)) w) rfl ?_
            refine kx_st 2 (pc' := 10) (L' := [some (.ref 65), some (.int (nI k)), some (.int b)]) (st' := [.int b, .ref 65]) (h' := kv_wd (kv_up g69 64 3 (g69 64 3 + 1)) w) rfl ?_
            refine kx_call (z := 140) (as := [.ref 65, .int b]) (rest := []) (v := some (.int (kx_b (kx_pr s b)))) (h1 := kv_wd (kv_up g69 64 3 (g69 64 3 + 1)) w) rfl (ev_mPairS (d := 896) (g := kv_up g69 64 3 (g69 64 3 + 1)) (s := s) (show kx_M F0 F1 s t m K ((kv_up g69 64 3 (g69 64 3 + 1)) 66) from M69).2.1.1 a2 b) ?_
            refine kx_st 0 (pc' := 13) (L' := [some (.ref 65), some (.int (nI k)), some (.int b)]) (st' := [.int (kx_b (kx_pr s b))]) (h' := kv_wd (kv_up g69 64 3 (g69 64 3 + 1)) w) rfl ?_
            refine kx_bn (t := 23) rfl rfl (fun (m13 : (kx_pr s b)) => ?_) (fun (m13 : ¬ (kx_pr s b)) => ?_)
            · refine kx_st 2 (pc' := 25) (L' := [some (.ref 65), some (.int (nI k)), some (.int b)]) (st' := [.int (nI k), .ref 65]) (h' := kv_wd (kv_up g69 64 3 (g69 64 3 + 1)) w) rfl ?_
              refine kx_call (z := 173) (as := [.ref 65, .int (nI k)]) (rest := []) (v := some (.int (kx_b (kx_fr K k)))) (h1 := kv_wd (kv_up g69 64 3 (g69 64 3 + 1)) w) rfl (ev_isFree (d := 897) (g := kv_up g69 64 3 (g69 64 3 + 1)) M69 k hkm hK) ?_
              refine kx_st 0 (pc' := 28) (L' := [some (.ref 65), some (.int (nI k)), some (.int b)]) (st' := [.int (kx_b (kx_fr K k))]) (h' := kv_wd (kv_up g69 64 3 (g69 64 3 + 1)) w) rfl ?_
              refine kx_be (t := 47) rfl rfl (fun (m28 : ¬ (kx_fr K k)) => ?_) (fun (m28 : (kx_fr K k)) => ?_)
              · refine kx_st 2 (pc' := 50) (L' := [some (.ref 65), some (.int (nI k)), some (.int b)]) (st' := [.int (-1000000003), .ref 65]) (h' := kv_wd (kv_up g69 64 3 (g69 64 3 + 1)) w) rfl ?_
                refine kx_call (z := 131) (as := [.ref 65, .int (-1000000003)]) (rest := []) (v := some (.int (-1000000003))) (h1 := kv_wd (kv_up (kv_up g69 64 3 (g69 64 3 + 1)) 70 3 ((kv_up g69 64 3 (g69 64 3 + 1)) 70 3 + 1)) w) rfl (ev_errs (d := 898) (-1000000003) 3 (by decide) (by decide)) ?_
                refine kx_st 0 (pc' := 53) (L' := [some (.ref 65), some (.int (nI k)), some (.int b)]) (st' := [.int (-1000000003)]) (h' := kv_wd (kv_up (kv_up g69 64 3 (g69 64 3 + 1)) 70 3 ((kv_up g69 64 3 (g69 64 3 + 1)) 70 3 + 1)) w) rfl ?_
                refine kx_ret (v := some (.int (-1000000003))) rfl ?_
                refine ⟨rfl, _, _, rfl, kx_Rl_roe (k := 3) hR rfl (fun b h8 h11 h4 h64 h65 h66 h68 h69 h70 => (by rw [kv_up_ne h70, kv_up_ne h64]; exact r69 b h8 h11 (by omega) (by omega) (by omega))) (fun z hz => congrFun (r69 65 (by omega) (by omega) (by omega) (by omega) (by omega)) z) (fun j hj => congrFun (r69 66 (by omega) (by omega) (by omega) (by omega) (by omega)) j) ?_ ?_⟩
                · show upd (g69 64) 3 (g69 64 3 + 1) = _
                  rw [r69 64 (by omega) (by omega) (by omega) (by omega) (by omega)]
                · show upd (g69 70) 3 (g69 70 3 + 1) = _
                  rw [r69 70 (by omega) (by omega) (by omega) (by omega) (by omega)]
              · refine kx_st 0 (pc' := 31) (L' := [some (.ref 65), some (.int (nI k)), some (.int b)]) (st' := []) (h' := kv_wd (kv_up g69 64 3 (g69 64 3 + 1)) w) rfl ?_
                refine kx_st 4 (pc' := 36) (L' := [some (.ref 65), some (.int (nI k)), some (.int b)]) (st' := [.int 10, .int b, .int (nI k), .ref 65]) (h' := kv_wd (kv_up g69 64 3 (g69 64 3 + 1)) w) rfl ?_
                refine kx_dv rfl (by decide) ?_
                refine kx_st 2 (pc' := 40) (L' := [some (.ref 65), some (.int (nI k)), some (.int b)]) (st' := [.int 10, .int b, .int (b / 10), .int (nI k), .ref 65]) (h' := kv_wd (kv_up g69 64 3 (g69 64 3 + 1)) w) rfl ?_
                refine kx_rm rfl (by decide) ?_
                obtain ⟨f41, k41, e41⟩ := ev_canTwo (E := E) (d := 798) (g := kv_up g69 64 3 (g69 64 3 + 1)) (w := w) M69 q0 m69 k hkm hK x y hx hy
                refine kx_call (z := 174) (as := [.ref 65, .int (nI k), .int (b / 10), .int (b % 10)]) (rest := []) (v := some (.int (kx_b (kx_cn F1 t q0 (K k) x y)))) (h1 := kv_wd (kv_uf (kv_up g69 64 3 (g69 64 3 + 1)) 65 f41) w) rfl (by rw [e10, e11]; exact e41) ?_
                refine kx_st 0 (pc' := 44) (L' := [some (.ref 65), some (.int (nI k)), some (.int b)]) (st' := [.int (kx_b (kx_cn F1 t q0 (K k) x y))]) (h' := kv_wd (kv_uf (kv_up g69 64 3 (g69 64 3 + 1)) 65 f41) w) rfl ?_
                refine kx_bn (t := 54) rfl rfl (fun (m44 : (kx_cn F1 t q0 (K k) x y)) => ?_) (fun (m44 : ¬ (kx_cn F1 t q0 (K k) x y)) => ?_)
                · exact absurd ⟨m28, m44⟩ h36
                · refine kx_st 0 (pc' := 47) (L' := [some (.ref 65), some (.int (nI k)), some (.int b)]) (st' := []) (h' := kv_wd (kv_uf (kv_up g69 64 3 (g69 64 3 + 1)) 65 f41) w) rfl ?_
                  refine kx_st 2 (pc' := 50) (L' := [some (.ref 65), some (.int (nI k)), some (.int b)]) (st' := [.int (-1000000003), .ref 65]) (h' := kv_wd (kv_uf (kv_up g69 64 3 (g69 64 3 + 1)) 65 f41) w) rfl ?_
                  refine kx_call (z := 131) (as := [.ref 65, .int (-1000000003)]) (rest := []) (v := some (.int (-1000000003))) (h1 := kv_wd (kv_up (kv_uf (kv_up g69 64 3 (g69 64 3 + 1)) 65 f41) 70 3 ((kv_uf (kv_up g69 64 3 (g69 64 3 + 1)) 65 f41) 70 3 + 1)) w) rfl (ev_errs (d := 898) (-1000000003) 3 (by decide) (by decide)) ?_
                  refine kx_st 0 (pc' := 53) (L' := [some (.ref 65), some (.int (nI k)), some (.int b)]) (st' := [.int (-1000000003)]) (h' := kv_wd (kv_up (kv_uf (kv_up g69 64 3 (g69 64 3 + 1)) 65 f41) 70 3 ((kv_uf (kv_up g69 64 3 (g69 64 3 + 1)) 65 f41) 70 3 + 1)) w) rfl ?_
                  refine kx_ret (v := some (.int (-1000000003))) rfl ?_
                  refine ⟨rfl, _, _, rfl, kx_Rl_roe (k := 3) hR rfl (fun b h8 h11 h4 h64 h65 h66 h68 h69 h70 => (by rw [kv_up_ne h70, kv_uf_ne h65, kv_up_ne h64]; exact r69 b h8 h11 (by omega) (by omega) (by omega))) (fun z hz => (k41 z hz).trans (congrFun (r69 65 (by omega) (by omega) (by omega) (by omega) (by omega)) z)) (fun j hj => congrFun (r69 66 (by omega) (by omega) (by omega) (by omega) (by omega)) j) ?_ ?_⟩
                  · show upd (g69 64) 3 (g69 64 3 + 1) = _
                    rw [r69 64 (by omega) (by omega) (by omega) (by omega) (by omega)]
                  · show upd (g69 70) 3 (g69 70 3 + 1) = _
                    rw [r69 70 (by omega) (by omega) (by omega) (by omega) (by omega)]
            · exact absurd hp m13
      · exact absurd hp h21
    · refine kx_two (by decide) (Nat.le_of_ble_eq_true rfl) (by decide) (Nat.le_of_ble_eq_true rfl) ?_
      refine kx_st 0 (pc' := 0) (L' := [some (.ref 0), some (.int (nI k)), some (.int b), none]) (st' := []) (h' := kv_wd g w) rfl ?_
      refine kx_st 3 (pc' := 5) (L' := [some (.ref 0), some (.int (nI k)), some (.int b), none]) (st' := [.int (nI k), .ref 1]) (h' := kv_wd g w) rfl ?_
      refine kx_call (z := 17) (as := [.ref 1, .int (nI k)]) (rest := []) (v := some (.ref (14 + k))) (h1 := kv_wd g w) rfl (ev_knotAt (d := 898) (g := g) q k hk8 (by rw [d1]; exact nI_lt hkm (by omega))) ?_
      refine kx_st 0 (pc' := 8) (L' := [some (.ref 0), some (.int (nI k)), some (.int b), none]) (st' := [.ref (14 + k)]) (h' := kv_wd g w) rfl ?_
      refine kx_st 2 (pc' := 10) (L' := [some (.ref 0), some (.int (nI k)), some (.int b), some (.ref (14 + k))]) (st' := [.ref (14 + k)]) (h' := kv_wd g w) rfl ?_
      refine kx_st 1 (pc' := 13) (L' := [some (.ref 0), some (.int (nI k)), some (.int b), some (.ref (14 + k))]) (st' := []) (h' := kv_wd g w) rfl ?_
      refine kx_st 3 (pc' := 18) (L' := [some (.ref 0), some (.int (nI k)), some (.int b), some (.ref (14 + k))]) (st' := [.int b, .ref 1]) (h' := kv_wd g w) rfl ?_
      refine kx_call (z := 12) (as := [.ref 1, .int b]) (rest := []) (v := some (.int (kx_b (kx_pr s b)))) (h1 := kv_wd g w) rfl (ev_isPairS (d := 897) (g := g) (s := s) b1 a2 b) ?_
      refine kx_st 0 (pc' := 21) (L' := [some (.ref 0), some (.int (nI k)), some (.int b), some (.ref (14 + k))]) (st' := [.int (kx_b (kx_pr s b))]) (h' := kv_wd g w) rfl ?_
      refine kx_bn (t := 30) rfl rfl (fun (h21 : (kx_pr s b)) => ?_) (fun (h21 : ¬ (kx_pr s b)) => ?_)
      · exact absurd h21 hp
      · refine kx_st 0 (pc' := 24) (L' := [some (.ref 0), some (.int (nI k)), some (.int b), some (.ref (14 + k))]) (st' := []) (h' := kv_wd g w) rfl ?_
        refine kx_st 2 (pc' := 26) (L' := [some (.ref 0), some (.int (nI k)), some (.int b), some (.ref (14 + k))]) (st' := [.int 1, .ref 0]) (h' := kv_wd g w) rfl ?_
        refine kx_call (z := 123) (as := [.ref 0, .int 1]) (rest := []) (v := some (.int (-1000000000 - nI 1))) (h1 := kv_wd (kv_up g 64 1 (g 64 1 + 1)) w) rfl (ev_error (d := 898) 1 (by decide) (by decide)) ?_
        refine kx_st 0 (pc' := 29) (L' := [some (.ref 0), some (.int (nI k)), some (.int b), some (.ref (14 + k))]) (st' := [.int (-1000000000 - nI 1)]) (h' := kv_wd (kv_up g 64 1 (g 64 1 + 1)) w) rfl ?_
        refine kx_ret (v := some (.int (-1000000000 - nI 1))) rfl ?_
        refine ⟨_, _, _, rfl, rfl, ?_⟩
        refine kx_st 0 (pc' := 0) (L' := [some (.ref 65), some (.int (nI k)), some (.int b)]) (st' := []) (h' := kv_wd (kv_up g 64 1 (g 64 1 + 1)) w) rfl ?_
        refine kx_st 2 (pc' := 2) (L' := [some (.ref 65), some (.int (nI k)), some (.int b)]) (st' := [.int (nI k), .ref 65]) (h' := kv_wd (kv_up g 64 1 (g 64 1 + 1)) w) rfl ?_
        refine kx_call (z := 139) (as := [.ref 65, .int (nI k)]) (rest := []) (v := some (.int (kx_b (0 ≤ nI k ∧ nI k < nI m)))) (h1 := kv_wd (kv_up g 64 1 (g 64 1 + 1)) w) rfl (ev_mKnotS (d := 897) (g := kv_up g 64 1 (g 64 1 + 1)) (s := m) (by first | exact d2 | (rw [kv_up_ne (by omega)]; exact d2)) a4 (nI k)) ?_
        refine kx_st 0 (pc' := 5) (L' := [some (.ref 65), some (.int (nI k)), some (.int b)]) (st' := [.int (kx_b (0 ≤ nI k ∧ nI k < nI m))]) (h' := kv_wd (kv_up g 64 1 (g 64 1 + 1)) w) rfl ?_
        refine kx_be (t := 16) rfl rfl (fun (m5 : ¬ (0 ≤ nI k ∧ nI k < nI m)) => ?_) (fun (m5 : (0 ≤ nI k ∧ nI k < nI m)) => ?_)
        · exact absurd hv m5
        · refine kx_st 0 (pc' := 8) (L' := [some (.ref 65), some (.int (nI k)), some (.int b)]) (st' := []) (h' := kv_wd (kv_up g 64 1 (g 64 1 + 1)) w) rfl ?_
          refine kx_st 2 (pc' := 10) (L' := [some (.ref 65), some (.int (nI k)), some (.int b)]) (st' := [.int b, .ref 65]) (h' := kv_wd (kv_up g 64 1 (g 64 1 + 1)) w) rfl ?_
          refine kx_call (z := 140) (as := [.ref 65, .int b]) (rest := []) (v := some (.int (kx_b (kx_pr s b)))) (h1 := kv_wd (kv_up g 64 1 (g 64 1 + 1)) w) rfl (ev_mPairS (d := 896) (g := kv_up g 64 1 (g 64 1 + 1)) (s := s) b2 a2 b) ?_
          refine kx_st 0 (pc' := 13) (L' := [some (.ref 65), some (.int (nI k)), some (.int b)]) (st' := [.int (kx_b (kx_pr s b))]) (h' := kv_wd (kv_up g 64 1 (g 64 1 + 1)) w) rfl ?_
          refine kx_bn (t := 23) rfl rfl (fun (m13 : (kx_pr s b)) => ?_) (fun (m13 : ¬ (kx_pr s b)) => ?_)
          · exact absurd m13 hp
          · refine kx_st 0 (pc' := 16) (L' := [some (.ref 65), some (.int (nI k)), some (.int b)]) (st' := []) (h' := kv_wd (kv_up g 64 1 (g 64 1 + 1)) w) rfl ?_
            refine kx_st 2 (pc' := 19) (L' := [some (.ref 65), some (.int (nI k)), some (.int b)]) (st' := [.int (-1000000001), .ref 65]) (h' := kv_wd (kv_up g 64 1 (g 64 1 + 1)) w) rfl ?_
            refine kx_call (z := 131) (as := [.ref 65, .int (-1000000001)]) (rest := []) (v := some (.int (-1000000001))) (h1 := kv_wd (kv_up (kv_up g 64 1 (g 64 1 + 1)) 70 1 ((kv_up g 64 1 (g 64 1 + 1)) 70 1 + 1)) w) rfl (ev_errs (d := 898) (-1000000001) 1 (by decide) (by decide)) ?_
            refine kx_st 0 (pc' := 22) (L' := [some (.ref 65), some (.int (nI k)), some (.int b)]) (st' := [.int (-1000000001)]) (h' := kv_wd (kv_up (kv_up g 64 1 (g 64 1 + 1)) 70 1 ((kv_up g 64 1 (g 64 1 + 1)) 70 1 + 1)) w) rfl ?_
            refine kx_ret (v := some (.int (-1000000001))) rfl ?_
            exact ⟨rfl, _, _, rfl, kx_Rl_e hR⟩
  · refine kx_two (by decide) (Nat.le_of_ble_eq_true rfl) (by decide) (Nat.le_of_ble_eq_true rfl) ?_
    refine kx_st 0 (pc' := 0) (L' := [some (.ref 0), some (.int a), some (.int b), none]) (st' := []) (h' := kv_wd g w) rfl ?_
    refine kx_st 3 (pc' := 5) (L' := [some (.ref 0), some (.int a), some (.int b), none]) (st' := [.int a, .ref 1]) (h' := kv_wd g w) rfl ?_
    refine kx_call (z := 17) (as := [.ref 1, .int a]) (rest := []) (v := some (.null)) (h1 := kv_wd g w) rfl (ev_knotAt_n (d := 898) (g := g) a (by rw [d1]; exact hv)) ?_
    refine kx_st 0 (pc' := 8) (L' := [some (.ref 0), some (.int a), some (.int b), none]) (st' := [.null]) (h' := kv_wd g w) rfl ?_
    refine kx_st 2 (pc' := 10) (L' := [some (.ref 0), some (.int a), some (.int b), some (.null)]) (st' := [.null]) (h' := kv_wd g w) rfl ?_
    refine kx_st 1 (pc' := 24) (L' := [some (.ref 0), some (.int a), some (.int b), some (.null)]) (st' := []) (h' := kv_wd g w) rfl ?_
    refine kx_st 2 (pc' := 26) (L' := [some (.ref 0), some (.int a), some (.int b), some (.null)]) (st' := [.int 1, .ref 0]) (h' := kv_wd g w) rfl ?_
    refine kx_call (z := 123) (as := [.ref 0, .int 1]) (rest := []) (v := some (.int (-1000000000 - nI 1))) (h1 := kv_wd (kv_up g 64 1 (g 64 1 + 1)) w) rfl (ev_error (d := 898) 1 (by decide) (by decide)) ?_
    refine kx_st 0 (pc' := 29) (L' := [some (.ref 0), some (.int a), some (.int b), some (.null)]) (st' := [.int (-1000000000 - nI 1)]) (h' := kv_wd (kv_up g 64 1 (g 64 1 + 1)) w) rfl ?_
    refine kx_ret (v := some (.int (-1000000000 - nI 1))) rfl ?_
    refine ⟨_, _, _, rfl, rfl, ?_⟩
    refine kx_st 0 (pc' := 0) (L' := [some (.ref 65), some (.int a), some (.int b)]) (st' := []) (h' := kv_wd (kv_up g 64 1 (g 64 1 + 1)) w) rfl ?_
    refine kx_st 2 (pc' := 2) (L' := [some (.ref 65), some (.int a), some (.int b)]) (st' := [.int a, .ref 65]) (h' := kv_wd (kv_up g 64 1 (g 64 1 + 1)) w) rfl ?_
    refine kx_call (z := 139) (as := [.ref 65, .int a]) (rest := []) (v := some (.int (kx_b (0 ≤ a ∧ a < nI m)))) (h1 := kv_wd (kv_up g 64 1 (g 64 1 + 1)) w) rfl (ev_mKnotS (d := 897) (g := kv_up g 64 1 (g 64 1 + 1)) (s := m) (by first | exact d2 | (rw [kv_up_ne (by omega)]; exact d2)) a4 a) ?_
    refine kx_st 0 (pc' := 5) (L' := [some (.ref 65), some (.int a), some (.int b)]) (st' := [.int (kx_b (0 ≤ a ∧ a < nI m))]) (h' := kv_wd (kv_up g 64 1 (g 64 1 + 1)) w) rfl ?_
    refine kx_be (t := 16) rfl rfl (fun (m5 : ¬ (0 ≤ a ∧ a < nI m)) => ?_) (fun (m5 : (0 ≤ a ∧ a < nI m)) => ?_)
    · refine kx_st 2 (pc' := 19) (L' := [some (.ref 65), some (.int a), some (.int b)]) (st' := [.int (-1000000001), .ref 65]) (h' := kv_wd (kv_up g 64 1 (g 64 1 + 1)) w) rfl ?_
      refine kx_call (z := 131) (as := [.ref 65, .int (-1000000001)]) (rest := []) (v := some (.int (-1000000001))) (h1 := kv_wd (kv_up (kv_up g 64 1 (g 64 1 + 1)) 70 1 ((kv_up g 64 1 (g 64 1 + 1)) 70 1 + 1)) w) rfl (ev_errs (d := 898) (-1000000001) 1 (by decide) (by decide)) ?_
      refine kx_st 0 (pc' := 22) (L' := [some (.ref 65), some (.int a), some (.int b)]) (st' := [.int (-1000000001)]) (h' := kv_wd (kv_up (kv_up g 64 1 (g 64 1 + 1)) 70 1 ((kv_up g 64 1 (g 64 1 + 1)) 70 1 + 1)) w) rfl ?_
      refine kx_ret (v := some (.int (-1000000001))) rfl ?_
      exact ⟨rfl, _, _, rfl, kx_Rl_e hR⟩
    · exact absurd m5 hv
