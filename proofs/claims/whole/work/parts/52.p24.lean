/-! PAIRS: bind, whose -/
def kx_bv (v p u cr yr : Int32) : Nat → Int32 := fun c => match c with
  | 0 => v / 10
  | 1 => v % 10
  | 2 => p / 10
  | 3 => p % 10
  | 4 => cr
  | 5 => yr
  | 6 => u
  | 7 => 1
  | _ => 0
theorem kx_Rl_bind {g g' : kv_S} {w : kv_W} {i s m : Nat} (h : kx_Rl kx_L g w i) (hs : g 1 0 = nI s) (hs6 : s ≤ 6) (hm : g 66 2 = nI m) (m8 : m < 8) (V : Nat → Int32) (hK : kx_K s m V V) (e1 : g' 1 4 = nI (m + 1)) (e1o : ∀ k, k ≠ 4 → g' 1 k = g 1 k) (ek : ∀ c, c < 9 → g' (14 + m) c = V c) (er : ∀ c, c < 9 → g' 66 (26 + 9 * m + c) = V c) (er2 : g' 66 2 = nI (m + 1)) (ero : ∀ j, j ≠ 2 → (j < 26 + 9 * m ∨ 26 + 9 * m + 9 ≤ j) → g' 66 j = g 66 j) (e : ∀ b, b ≠ 1 → b ≠ 14 + m → b ≠ 66 → g' b = g b) : kx_Rl kx_L g' w (i + 1) := by
  have f : ∀ b, b ≠ 1 ∧ (b < 14 ∨ 22 ≤ b) ∧ b ≠ 66 → g' b = g b := fun b hb => e b hb.1 (by omega) hb.2.2
  obtain ⟨Q, cu, ⟨H1, H2, H3, H4, H5, hz, l0, l1⟩, im, sh, tr, er'⟩ := id h
  refine kx_Rl_hn h Q (fun b b1 b2 => f b (by omega)) (fun k hk => by rw [f 65 (by omega)]) ⟨by rw [f 6 (by omega)], by rw [f 9 (by omega)]⟩ ⟨?_, ?_, ?_, ?_, ?_, ?_, ?_, ?_⟩
  · obtain ⟨s', t, m', ⟨a1, a2, a3, a4⟩, ⟨b1, b2⟩, ⟨c1, c2⟩, ⟨d1, d2⟩, hk⟩ := id H1
    have es : s' = s := kx_nI_inj (by omega) (by omega) (b1.symm.trans hs)
    have em : m' = m := kx_nI_inj (by omega) (by omega) (d2.symm.trans hm)
    subst es em
    refine ⟨s', t, m' + 1, ⟨a1, a2, a3, by omega⟩, ⟨by rw [e1o 0 (by omega)]; exact b1, by rw [ero 3 (by omega) (by omega)]; exact b2⟩, ⟨by rw [e1o 1 (by omega)]; exact c1, fun p hp => by rw [ero _ (by omega) (by omega)]; exact c2 p hp⟩, ⟨e1, er2⟩, fun k hkm => ?_⟩
    by_cases hkk : k = m'
    · subst hkk
      exact kx_K_cg (fun c hc => by rw [kx_kn_at (by omega), ek c hc]) (fun c hc => er c hc) hK
    · refine kx_K_cg (fun c hc => ?_) (fun c hc => ?_) (hk k (by omega))
      · rw [kx_kn_at (by omega), kx_kn_at (by omega), e (14 + k) (by omega) (by omega) (by omega)]
      · exact ero _ (by omega) (by omega)
  · rw [f 3 (by omega), f 4 (by omega)]; exact kx_H2_cg (fun _ _ => rfl) (fun _ _ => rfl) (fun j hj => ero j (by omega) (by omega)) H2
  · rw [f 2 (by omega)]; exact kx_H3_cg rfl (ero 0 (by omega) (by omega)) H3
  · rw [f 12 (by omega)]; exact kx_H4_cg (e1o 8 (by omega)) (fun _ _ => rfl) (fun j hj => ero j (by omega) (by omega)) H4
  · rw [f 13 (by omega)]; exact kx_H5_cg (e1o 10 (by omega)) (fun _ _ => rfl) (fun j hj => ero j (by omega) (by omega)) H5
  · rw [e1o 11 (by omega), ero 1 (by omega) (by omega)]; exact hz
  · exact kx_L_cg (by rw [f 6 (by omega)]) (fun j _ => by rw [f 7 (by omega)]) (ero 6 (by omega) (by omega)) (fun j hj => ero _ (by omega) (by omega)) l0
  · exact kx_L_cg (by rw [f 9 (by omega)]) (fun j _ => by rw [f 10 (by omega)]) (ero 7 (by omega) (by omega)) (fun j hj => ero _ (by omega) (by omega)) l1
set_option maxRecDepth 100000 in
theorem ev_addKnot {E : kv_V} {d : Nat} {g : kv_S} {w : kv_W} (hq : kv_qok w) (m : Nat) (m8 : m < 8) (hm : g 1 4 = nI m) (v p u : Int32) (x y : Nat) (hx : x < 6) (hy : y < 6) (e10 : p / 10 = nI x) (e11 : p % 10 = nI y) : ∃ g' : kv_S, kv_ev E (d + 3) 19 [.ref 1, .int v, .int p, .int u] (kv_wd g w) (some (.int (nI m))) (kv_wd g' w) ∧ g' 1 4 = nI (m + 1) ∧ (∀ k, k ≠ 4 → g' 1 k = g 1 k) ∧ (∀ c, c < 9 → g' (14 + m) c = kx_bv v p u (g 3 x + g 4 y) (g 2 2) c) ∧ ∀ b, b ≠ 1 → b ≠ 14 + m → g' b = g b := by
  obtain ⟨r, hf, he, rfl, g', rfl, hh⟩ := kx_evP (E := E) (d := d + 2) (y := 19) (h := kv_wd g w) (as := [.ref 1, .int v, .int p, .int u]) (P := fun r h => r = some (.int (nI m)) ∧ ∃ g' : kv_S, h = kv_wd g' w ∧ g' 1 4 = nI (m + 1) ∧ (∀ k, k ≠ 4 → g' 1 k = g 1 k) ∧ (∀ c, c < 9 → g' (14 + m) c = kx_bv v p u (g 3 x + g 4 y) (g 2 2) c) ∧ ∀ b, b ≠ 1 → b ≠ 14 + m → g' b = g b) (by decide) (Nat.le_of_ble_eq_true rfl) (by
    refine kx_st 0 (pc' := 0) (L' := [some (.ref 1), some (.int v), some (.int p), some (.int u), none]) (st' := []) (h' := kv_wd g w) rfl ?_
    refine kx_st 5 (pc' := 9) (L' := [some (.ref 1), some (.int v), some (.int p), some (.int u), none]) (st' := [.int 8, .int (g 1 4)]) (h' := kv_wd g w) rfl ?_
    refine kx_bi (t := 14) rfl rfl (fun (h9 : g 1 4 < 8) => ?_) (fun (h9 : ¬ (g 1 4 < 8)) => ?_)
    · refine kx_st 4 (pc' := 22) (L' := [some (.ref 1), some (.int v), some (.int p), some (.int u), none]) (st' := [.int (g 1 4), .ref 5]) (h' := kv_wd g w) rfl ?_
      refine kx_aa (t := 2) (k := m) (b := (14 + m)) rfl rfl (by decide) (by decide) hm (by omega) (by decide) (hq.1 _ (by omega)) ?_
      refine kx_st 4 (pc' := 30) (L' := [some (.ref 1), some (.int v), some (.int p), some (.int u), some (.ref (14 + m))]) (st' := [.int 10, .int v, .ref (14 + m)]) (h' := kv_wd g w) rfl ?_
      refine kx_dv rfl (by decide) ?_
      refine kx_pf (i := 95) (k := 0) (x := (v / 10)) rfl rfl (kv_kn_h m8).1 ((kv_kn_h m8).2 _ _) (Nat.le_of_ble_eq_true rfl) (by rw [(kv_kn_h m8).2]; rfl) rfl rfl ?_
      refine kx_st 3 (pc' := 39) (L' := [some (.ref 1), some (.int v), some (.int p), some (.int u), some (.ref (14 + m))]) (st' := [.int 10, .int v, .ref (14 + m)]) (h' := kv_wd (kv_up g (14 + m) 0 (v / 10)) w) rfl ?_
      refine kx_rm rfl (by decide) ?_
      refine kx_pf (i := 98) (k := 1) (x := (v % 10)) rfl rfl (kv_kn_h m8).1 ((kv_kn_h m8).2 _ _) (Nat.le_of_ble_eq_true rfl) (by rw [(kv_kn_h m8).2]; rfl) rfl rfl ?_
      refine kx_st 3 (pc' := 48) (L' := [some (.ref 1), some (.int v), some (.int p), some (.int u), some (.ref (14 + m))]) (st' := [.int 10, .int p, .ref (14 + m)]) (h' := kv_wd (kv_up (kv_up g (14 + m) 0 (v / 10)) (14 + m) 1 (v % 10)) w) rfl ?_
      refine kx_dv rfl (by decide) ?_
      refine kx_pf (i := 101) (k := 2) (x := (p / 10)) rfl rfl (kv_kn_h m8).1 ((kv_kn_h m8).2 _ _) (Nat.le_of_ble_eq_true rfl) (by rw [(kv_kn_h m8).2]; rfl) rfl rfl ?_
      refine kx_st 3 (pc' := 57) (L' := [some (.ref 1), some (.int v), some (.int p), some (.int u), some (.ref (14 + m))]) (st' := [.int 10, .int p, .ref (14 + m)]) (h' := kv_wd (kv_up (kv_up (kv_up g (14 + m) 0 (v / 10)) (14 + m) 1 (v % 10)) (14 + m) 2 (p / 10)) w) rfl ?_
      refine kx_rm rfl (by decide) ?_
      refine kx_pf (i := 104) (k := 3) (x := (p % 10)) rfl rfl (kv_kn_h m8).1 ((kv_kn_h m8).2 _ _) (Nat.le_of_ble_eq_true rfl) (by rw [(kv_kn_h m8).2]; rfl) rfl rfl ?_
      refine kx_st 4 (pc' := 69) (L' := [some (.ref 1), some (.int v), some (.int p), some (.int u), some (.ref (14 + m))]) (st' := [.ref (14 + m), .ref 2, .ref (14 + m)]) (h' := kv_wd (kv_up (kv_up (kv_up (kv_up g (14 + m) 0 (v / 10)) (14 + m) 1 (v % 10)) (14 + m) 2 (p / 10)) (14 + m) 3 (p % 10)) w) rfl ?_
      refine kx_gf (i := 101) (k := 2) (v := .int ((kv_up (kv_up (kv_up (kv_up g (14 + m) 0 (v / 10)) (14 + m) 1 (v % 10)) (14 + m) 2 (p / 10)) (14 + m) 3 (p % 10)) (14 + m) 2)) rfl rfl (kv_kn_h m8).1 ((kv_kn_h m8).2 _ _) rfl ?_
      refine kx_st 1 (pc' := 74) (L' := [some (.ref 1), some (.int v), some (.int p), some (.int u), some (.ref (14 + m))]) (st' := [.ref (14 + m), .int ((kv_up (kv_up (kv_up (kv_up g (14 + m) 0 (v / 10)) (14 + m) 1 (v % 10)) (14 + m) 2 (p / 10)) (14 + m) 3 (p % 10)) (14 + m) 2), .ref 2, .ref (14 + m)]) (h' := kv_wd (kv_up (kv_up (kv_up (kv_up g (14 + m) 0 (v / 10)) (14 + m) 1 (v % 10)) (14 + m) 2 (p / 10)) (14 + m) 3 (p % 10)) w) rfl ?_
      refine kx_gf (i := 104) (k := 3) (v := .int ((kv_up (kv_up (kv_up (kv_up g (14 + m) 0 (v / 10)) (14 + m) 1 (v % 10)) (14 + m) 2 (p / 10)) (14 + m) 3 (p % 10)) (14 + m) 3)) rfl rfl (kv_kn_h m8).1 ((kv_kn_h m8).2 _ _) rfl ?_
      have o1 : (kv_up (kv_up (kv_up (kv_up g (14 + m) 0 (v / 10)) (14 + m) 1 (v % 10)) (14 + m) 2 (p / 10)) (14 + m) 3 (p % 10)) (14 + m) 2 = nI x := by rw [kv_up_at, kx_upn (by omega), kv_up_at, kx_ups]; exact e10
      have o2 : (kv_up (kv_up (kv_up (kv_up g (14 + m) 0 (v / 10)) (14 + m) 1 (v % 10)) (14 + m) 2 (p / 10)) (14 + m) 3 (p % 10)) (14 + m) 3 = nI y := by rw [kv_up_at, kx_ups]; exact e11
      have ec := ev_crossing (E := E) (d := d) (g := kv_up (kv_up (kv_up (kv_up g (14 + m) 0 (v / 10)) (14 + m) 1 (v % 10)) (14 + m) 2 (p / 10)) (14 + m) 3 (p % 10)) (w := w) kv_hd2 x y hx hy
      rw [show (kv_up (kv_up (kv_up (kv_up g (14 + m) 0 (v / 10)) (14 + m) 1 (v % 10)) (14 + m) 2 (p / 10)) (14 + m) 3 (p % 10)) (2 + 1) = g 3 from by rw [kv_up_ne (by omega), kv_up_ne (by omega), kv_up_ne (by omega), kv_up_ne (by omega)], show (kv_up (kv_up (kv_up (kv_up g (14 + m) 0 (v / 10)) (14 + m) 1 (v % 10)) (14 + m) 2 (p / 10)) (14 + m) 3 (p % 10)) (2 + 2) = g 4 from by rw [kv_up_ne (by omega), kv_up_ne (by omega), kv_up_ne (by omega), kv_up_ne (by omega)]] at ec
      refine kx_call (z := 4) (as := [.ref 2, .int ((kv_up (kv_up (kv_up (kv_up g (14 + m) 0 (v / 10)) (14 + m) 1 (v % 10)) (14 + m) 2 (p / 10)) (14 + m) 3 (p % 10)) (14 + m) 2), .int ((kv_up (kv_up (kv_up (kv_up g (14 + m) 0 (v / 10)) (14 + m) 1 (v % 10)) (14 + m) 2 (p / 10)) (14 + m) 3 (p % 10)) (14 + m) 3)]) (rest := [.ref (14 + m)]) (v := some (.int (g 3 x + g 4 y))) (h1 := kv_wd (kv_up (kv_up (kv_up (kv_up g (14 + m) 0 (v / 10)) (14 + m) 1 (v % 10)) (14 + m) 2 (p / 10)) (14 + m) 3 (p % 10)) w) rfl (by rw [o1, o2]; exact ec) ?_
      refine kx_st 0 (pc' := 80) (L' := [some (.ref 1), some (.int v), some (.int p), some (.int u), some (.ref (14 + m))]) (st' := [.int (g 3 x + g 4 y), .ref (14 + m)]) (h' := kv_wd (kv_up (kv_up (kv_up (kv_up g (14 + m) 0 (v / 10)) (14 + m) 1 (v % 10)) (14 + m) 2 (p / 10)) (14 + m) 3 (p % 10)) w) rfl ?_
      refine kx_pf (i := 110) (k := 4) (x := (g 3 x + g 4 y)) rfl rfl (kv_kn_h m8).1 ((kv_kn_h m8).2 _ _) (Nat.le_of_ble_eq_true rfl) (by rw [(kv_kn_h m8).2]; rfl) rfl rfl ?_
      refine kx_st 4 (pc' := 92) (L' := [some (.ref 1), some (.int v), some (.int p), some (.int u), some (.ref (14 + m))]) (st' := [.int ((kv_up (kv_up (kv_up (kv_up (kv_up g (14 + m) 0 (v / 10)) (14 + m) 1 (v % 10)) (14 + m) 2 (p / 10)) (14 + m) 3 (p % 10)) (14 + m) 4 (g 3 x + g 4 y)) 2 2), .ref (14 + m)]) (h' := kv_wd (kv_up (kv_up (kv_up (kv_up (kv_up g (14 + m) 0 (v / 10)) (14 + m) 1 (v % 10)) (14 + m) 2 (p / 10)) (14 + m) 3 (p % 10)) (14 + m) 4 (g 3 x + g 4 y)) w) rfl ?_
      refine kx_pf (i := 115) (k := 5) (x := ((kv_up (kv_up (kv_up (kv_up (kv_up g (14 + m) 0 (v / 10)) (14 + m) 1 (v % 10)) (14 + m) 2 (p / 10)) (14 + m) 3 (p % 10)) (14 + m) 4 (g 3 x + g 4 y)) 2 2)) rfl rfl (kv_kn_h m8).1 ((kv_kn_h m8).2 _ _) (Nat.le_of_ble_eq_true rfl) (by rw [(kv_kn_h m8).2]; rfl) rfl rfl ?_
      refine kx_st 2 (pc' := 98) (L' := [some (.ref 1), some (.int v), some (.int p), some (.int u), some (.ref (14 + m))]) (st' := [.int u, .ref (14 + m)]) (h' := kv_wd (kv_up (kv_up (kv_up (kv_up (kv_up (kv_up g (14 + m) 0 (v / 10)) (14 + m) 1 (v % 10)) (14 + m) 2 (p / 10)) (14 + m) 3 (p % 10)) (14 + m) 4 (g 3 x + g 4 y)) (14 + m) 5 ((kv_up (kv_up (kv_up (kv_up (kv_up g (14 + m) 0 (v / 10)) (14 + m) 1 (v % 10)) (14 + m) 2 (p / 10)) (14 + m) 3 (p % 10)) (14 + m) 4 (g 3 x + g 4 y)) 2 2)) w) rfl ?_
      refine kx_pf (i := 116) (k := 6) (x := u) rfl rfl (kv_kn_h m8).1 ((kv_kn_h m8).2 _ _) (Nat.le_of_ble_eq_true rfl) (by rw [(kv_kn_h m8).2]; rfl) rfl rfl ?_
      refine kx_st 2 (pc' := 104) (L' := [some (.ref 1), some (.int v), some (.int p), some (.int u), some (.ref (14 + m))]) (st' := [.int 1, .ref (14 + m)]) (h' := kv_wd (kv_up (kv_up (kv_up (kv_up (kv_up (kv_up (kv_up g (14 + m) 0 (v / 10)) (14 + m) 1 (v % 10)) (14 + m) 2 (p / 10)) (14 + m) 3 (p % 10)) (14 + m) 4 (g 3 x + g 4 y)) (14 + m) 5 ((kv_up (kv_up (kv_up (kv_up (kv_up g (14 + m) 0 (v / 10)) (14 + m) 1 (v % 10)) (14 + m) 2 (p / 10)) (14 + m) 3 (p % 10)) (14 + m) 4 (g 3 x + g 4 y)) 2 2)) (14 + m) 6 u) w) rfl ?_
      refine kx_pf (i := 119) (k := 7) (x := 1) rfl rfl (kv_kn_h m8).1 ((kv_kn_h m8).2 _ _) (Nat.le_of_ble_eq_true rfl) (by rw [(kv_kn_h m8).2]; rfl) rfl rfl ?_
      refine kx_st 2 (pc' := 110) (L' := [some (.ref 1), some (.int v), some (.int p), some (.int u), some (.ref (14 + m))]) (st' := [.int 0, .ref (14 + m)]) (h' := kv_wd (kv_up (kv_up (kv_up (kv_up (kv_up (kv_up (kv_up (kv_up g (14 + m) 0 (v / 10)) (14 + m) 1 (v % 10)) (14 + m) 2 (p / 10)) (14 + m) 3 (p % 10)) (14 + m) 4 (g 3 x + g 4 y)) (14 + m) 5 ((kv_up (kv_up (kv_up (kv_up (kv_up g (14 + m) 0 (v / 10)) (14 + m) 1 (v % 10)) (14 + m) 2 (p / 10)) (14 + m) 3 (p % 10)) (14 + m) 4 (g 3 x + g 4 y)) 2 2)) (14 + m) 6 u) (14 + m) 7 1) w) rfl ?_
      refine kx_pf (i := 123) (k := 8) (x := 0) rfl rfl (kv_kn_h m8).1 ((kv_kn_h m8).2 _ _) (Nat.le_of_ble_eq_true rfl) (by rw [(kv_kn_h m8).2]; rfl) rfl rfl ?_
      refine kx_st 5 (pc' := 120) (L' := [some (.ref 1), some (.int v), some (.int p), some (.int u), some (.ref (14 + m))]) (st' := [.int (((kv_up (kv_up (kv_up (kv_up (kv_up (kv_up (kv_up (kv_up (kv_up g (14 + m) 0 (v / 10)) (14 + m) 1 (v % 10)) (14 + m) 2 (p / 10)) (14 + m) 3 (p % 10)) (14 + m) 4 (g 3 x + g 4 y)) (14 + m) 5 ((kv_up (kv_up (kv_up (kv_up (kv_up g (14 + m) 0 (v / 10)) (14 + m) 1 (v % 10)) (14 + m) 2 (p / 10)) (14 + m) 3 (p % 10)) (14 + m) 4 (g 3 x + g 4 y)) 2 2)) (14 + m) 6 u) (14 + m) 7 1) (14 + m) 8 0) 1 4) + 1), .ref 1]) (h' := kv_wd (kv_up (kv_up (kv_up (kv_up (kv_up (kv_up (kv_up (kv_up (kv_up g (14 + m) 0 (v / 10)) (14 + m) 1 (v % 10)) (14 + m) 2 (p / 10)) (14 + m) 3 (p % 10)) (14 + m) 4 (g 3 x + g 4 y)) (14 + m) 5 ((kv_up (kv_up (kv_up (kv_up (kv_up g (14 + m) 0 (v / 10)) (14 + m) 1 (v % 10)) (14 + m) 2 (p / 10)) (14 + m) 3 (p % 10)) (14 + m) 4 (g 3 x + g 4 y)) 2 2)) (14 + m) 6 u) (14 + m) 7 1) (14 + m) 8 0) w) rfl ?_
      refine kx_pf (i := 29) (k := 4) (x := (((kv_up (kv_up (kv_up (kv_up (kv_up (kv_up (kv_up (kv_up (kv_up g (14 + m) 0 (v / 10)) (14 + m) 1 (v % 10)) (14 + m) 2 (p / 10)) (14 + m) 3 (p % 10)) (14 + m) 4 (g 3 x + g 4 y)) (14 + m) 5 ((kv_up (kv_up (kv_up (kv_up (kv_up g (14 + m) 0 (v / 10)) (14 + m) 1 (v % 10)) (14 + m) 2 (p / 10)) (14 + m) 3 (p % 10)) (14 + m) 4 (g 3 x + g 4 y)) 2 2)) (14 + m) 6 u) (14 + m) 7 1) (14 + m) 8 0) 1 4) + 1)) rfl rfl (by decide) rfl (Nat.le_of_ble_eq_true rfl) rfl rfl rfl ?_
      refine kx_st 4 (pc' := 129) (L' := [some (.ref 1), some (.int v), some (.int p), some (.int u), some (.ref (14 + m))]) (st' := [.int (((kv_up (kv_up (kv_up (kv_up (kv_up (kv_up (kv_up (kv_up (kv_up (kv_up g (14 + m) 0 (v / 10)) (14 + m) 1 (v % 10)) (14 + m) 2 (p / 10)) (14 + m) 3 (p % 10)) (14 + m) 4 (g 3 x + g 4 y)) (14 + m) 5 ((kv_up (kv_up (kv_up (kv_up (kv_up g (14 + m) 0 (v / 10)) (14 + m) 1 (v % 10)) (14 + m) 2 (p / 10)) (14 + m) 3 (p % 10)) (14 + m) 4 (g 3 x + g 4 y)) 2 2)) (14 + m) 6 u) (14 + m) 7 1) (14 + m) 8 0) 1 4 (((kv_up (kv_up (kv_up (kv_up (kv_up (kv_up (kv_up (kv_up (kv_up g (14 + m) 0 (v / 10)) (14 + m) 1 (v % 10)) (14 + m) 2 (p / 10)) (14 + m) 3 (p % 10)) (14 + m) 4 (g 3 x + g 4 y)) (14 + m) 5 ((kv_up (kv_up (kv_up (kv_up (kv_up g (14 + m) 0 (v / 10)) (14 + m) 1 (v % 10)) (14 + m) 2 (p / 10)) (14 + m) 3 (p % 10)) (14 + m) 4 (g 3 x + g 4 y)) 2 2)) (14 + m) 6 u) (14 + m) 7 1) (14 + m) 8 0) 1 4) + 1)) 1 4) - 1)]) (h' := kv_wd (kv_up (kv_up (kv_up (kv_up (kv_up (kv_up (kv_up (kv_up (kv_up (kv_up g (14 + m) 0 (v / 10)) (14 + m) 1 (v % 10)) (14 + m) 2 (p / 10)) (14 + m) 3 (p % 10)) (14 + m) 4 (g 3 x + g 4 y)) (14 + m) 5 ((kv_up (kv_up (kv_up (kv_up (kv_up g (14 + m) 0 (v / 10)) (14 + m) 1 (v % 10)) (14 + m) 2 (p / 10)) (14 + m) 3 (p % 10)) (14 + m) 4 (g 3 x + g 4 y)) 2 2)) (14 + m) 6 u) (14 + m) 7 1) (14 + m) 8 0) 1 4 (((kv_up (kv_up (kv_up (kv_up (kv_up (kv_up (kv_up (kv_up (kv_up g (14 + m) 0 (v / 10)) (14 + m) 1 (v % 10)) (14 + m) 2 (p / 10)) (14 + m) 3 (p % 10)) (14 + m) 4 (g 3 x + g 4 y)) (14 + m) 5 ((kv_up (kv_up (kv_up (kv_up (kv_up g (14 + m) 0 (v / 10)) (14 + m) 1 (v % 10)) (14 + m) 2 (p / 10)) (14 + m) 3 (p % 10)) (14 + m) 4 (g 3 x + g 4 y)) 2 2)) (14 + m) 6 u) (14 + m) 7 1) (14 + m) 8 0) 1 4) + 1)) w) rfl ?_
      refine kx_ret (v := some (.int (((kv_up (kv_up (kv_up (kv_up (kv_up (kv_up (kv_up (kv_up (kv_up (kv_up g (14 + m) 0 (v / 10)) (14 + m) 1 (v % 10)) (14 + m) 2 (p / 10)) (14 + m) 3 (p % 10)) (14 + m) 4 (g 3 x + g 4 y)) (14 + m) 5 ((kv_up (kv_up (kv_up (kv_up (kv_up g (14 + m) 0 (v / 10)) (14 + m) 1 (v % 10)) (14 + m) 2 (p / 10)) (14 + m) 3 (p % 10)) (14 + m) 4 (g 3 x + g 4 y)) 2 2)) (14 + m) 6 u) (14 + m) 7 1) (14 + m) 8 0) 1 4 (((kv_up (kv_up (kv_up (kv_up (kv_up (kv_up (kv_up (kv_up (kv_up g (14 + m) 0 (v / 10)) (14 + m) 1 (v % 10)) (14 + m) 2 (p / 10)) (14 + m) 3 (p % 10)) (14 + m) 4 (g 3 x + g 4 y)) (14 + m) 5 ((kv_up (kv_up (kv_up (kv_up (kv_up g (14 + m) 0 (v / 10)) (14 + m) 1 (v % 10)) (14 + m) 2 (p / 10)) (14 + m) 3 (p % 10)) (14 + m) 4 (g 3 x + g 4 y)) 2 2)) (14 + m) 6 u) (14 + m) 7 1) (14 + m) 8 0) 1 4) + 1)) 1 4) - 1))) rfl ?_
      refine ⟨?_, _, rfl, ?_, ?_, ?_, ?_⟩
      · rw [show ((kv_up (kv_up (kv_up (kv_up (kv_up (kv_up (kv_up (kv_up (kv_up (kv_up g (14 + m) 0 (v / 10)) (14 + m) 1 (v % 10)) (14 + m) 2 (p / 10)) (14 + m) 3 (p % 10)) (14 + m) 4 (g 3 x + g 4 y)) (14 + m) 5 ((kv_up (kv_up (kv_up (kv_up (kv_up g (14 + m) 0 (v / 10)) (14 + m) 1 (v % 10)) (14 + m) 2 (p / 10)) (14 + m) 3 (p % 10)) (14 + m) 4 (g 3 x + g 4 y)) 2 2)) (14 + m) 6 u) (14 + m) 7 1) (14 + m) 8 0) 1 4 (((kv_up (kv_up (kv_up (kv_up (kv_up (kv_up (kv_up (kv_up (kv_up g (14 + m) 0 (v / 10)) (14 + m) 1 (v % 10)) (14 + m) 2 (p / 10)) (14 + m) 3 (p % 10)) (14 + m) 4 (g 3 x + g 4 y)) (14 + m) 5 ((kv_up (kv_up (kv_up (kv_up (kv_up g (14 + m) 0 (v / 10)) (14 + m) 1 (v % 10)) (14 + m) 2 (p / 10)) (14 + m) 3 (p % 10)) (14 + m) 4 (g 3 x + g 4 y)) 2 2)) (14 + m) 6 u) (14 + m) 7 1) (14 + m) 8 0) 1 4) + 1)) 1 4) - 1 = nI m from ?_]
        rw [kv_up_at, kx_ups, kv_up_ne (by omega), kv_up_ne (by omega), kv_up_ne (by omega), kv_up_ne (by omega), kv_up_ne (by omega), kv_up_ne (by omega), kv_up_ne (by omega), kv_up_ne (by omega), kv_up_ne (by omega), hm, show nI m + 1 - 1 = nI m by grind]
      · rw [kv_up_at, kx_ups, kv_up_ne (by omega), kv_up_ne (by omega), kv_up_ne (by omega), kv_up_ne (by omega), kv_up_ne (by omega), kv_up_ne (by omega), kv_up_ne (by omega), kv_up_ne (by omega), kv_up_ne (by omega), hm, nI_succ]
      · intro k hk
        rw [kv_up_at, kx_upn hk, kv_up_ne (by omega), kv_up_ne (by omega), kv_up_ne (by omega), kv_up_ne (by omega), kv_up_ne (by omega), kv_up_ne (by omega), kv_up_ne (by omega), kv_up_ne (by omega), kv_up_ne (by omega)]
      · intro c hc
        rw [kv_up_ne (by omega)]
        match c, hc with
        | 0, _ => rw [kv_up_at, kx_upn (by omega), kv_up_at, kx_upn (by omega), kv_up_at, kx_upn (by omega), kv_up_at, kx_upn (by omega), kv_up_at, kx_upn (by omega), kv_up_at, kx_upn (by omega), kv_up_at, kx_upn (by omega), kv_up_at, kx_upn (by omega), kv_up_at, kx_ups]; rfl
        | 1, _ => rw [kv_up_at, kx_upn (by omega), kv_up_at, kx_upn (by omega), kv_up_at, kx_upn (by omega), kv_up_at, kx_upn (by omega), kv_up_at, kx_upn (by omega), kv_up_at, kx_upn (by omega), kv_up_at, kx_upn (by omega), kv_up_at, kx_ups]; rfl
        | 2, _ => rw [kv_up_at, kx_upn (by omega), kv_up_at, kx_upn (by omega), kv_up_at, kx_upn (by omega), kv_up_at, kx_upn (by omega), kv_up_at, kx_upn (by omega), kv_up_at, kx_upn (by omega), kv_up_at, kx_ups]; rfl
        | 3, _ => rw [kv_up_at, kx_upn (by omega), kv_up_at, kx_upn (by omega), kv_up_at, kx_upn (by omega), kv_up_at, kx_upn (by omega), kv_up_at, kx_upn (by omega), kv_up_at, kx_ups]; rfl
        | 4, _ => rw [kv_up_at, kx_upn (by omega), kv_up_at, kx_upn (by omega), kv_up_at, kx_upn (by omega), kv_up_at, kx_upn (by omega), kv_up_at, kx_ups]; rfl
        | 5, _ => rw [kv_up_at, kx_upn (by omega), kv_up_at, kx_upn (by omega), kv_up_at, kx_upn (by omega), kv_up_at, kx_ups, kv_up_ne (by omega), kv_up_ne (by omega), kv_up_ne (by omega), kv_up_ne (by omega), kv_up_ne (by omega)]; rfl
        | 6, _ => rw [kv_up_at, kx_upn (by omega), kv_up_at, kx_upn (by omega), kv_up_at, kx_ups]; rfl
        | 7, _ => rw [kv_up_at, kx_upn (by omega), kv_up_at, kx_ups]; rfl
        | 8, _ => rw [kv_up_at, kx_ups]; rfl
        | c + 9, h => omega
      · intro b hb1 hb2
        rw [kv_up_ne hb1, kv_up_ne hb2, kv_up_ne hb2, kv_up_ne hb2, kv_up_ne hb2, kv_up_ne hb2, kv_up_ne hb2, kv_up_ne hb2, kv_up_ne hb2, kv_up_ne hb2]
    · exact absurd (by rw [hm]; exact nI_lt (a := m) (b := 8) m8 (by omega)) h9)
  exact ⟨g', he, hh⟩
theorem kx_un {c : Int32} {m : Nat} (hm : m ≤ 8) : (-1 ≤ c ∧ c ≤ nI m - 1) ↔ (¬ c < -1 ∧ c < nI m) := by
  have e : (nI m - 1).toInt = (m : Int) - 1 := by
    rw [Int32.toInt_sub, nI_toInt (by omega), show (1 : Int32).toInt = 1 from rfl]
    simp only [Int.bmod]
    omega
  have e1 : (-1 : Int32).toInt = -1 := rfl
  rw [Int32.le_iff_toInt_le, Int32.le_iff_toInt_le, Int32.lt_iff_toInt_lt, Int32.lt_iff_toInt_lt, e, e1, nI_toInt (by omega)]
  omega
theorem kx_un2 {c : Int32} {m : Nat} (hm : m ≤ 8) (h : ¬ c < -1 ∧ c < nI m) : c = -1 ∨ ∃ u, u < m ∧ c = nI u := by
  have e1 : (-1 : Int32).toInt = -1 := rfl
  rw [Int32.lt_iff_toInt_lt, Int32.lt_iff_toInt_lt, e1, nI_toInt (by omega)] at h
  by_cases hc : c.toInt = -1
  · exact Or.inl (Int32.toInt_inj.mp (hc.trans e1.symm))
  · refine Or.inr ⟨c.toInt.toNat, by omega, Int32.toInt_inj.mp ?_⟩
    rw [nI_toInt (by omega)]
    omega
set_option maxRecDepth 100000 in
theorem pr_bind {E : kv_V} (a b c : Int32) : kx_ok2 E (kx_Rl kx_L) 84 147 [.int a, .int b, .int c] := by
  intro g w i hR hi
  obtain ⟨F0, F1, s, t, m, K, hF0, hF1, hX, hM, hKB, hKe⟩ := kx_Rl_XMK hR
  obtain ⟨q0, hq0, hm0, hb0, hy0⟩ := kx_Rl_q hR
  have q := hR.1
  have b1 := hX.2.1.1
  have b2 := hM.2.1.1
  have a1 := hX.1.1
  have a2 := hX.1.2.1
  have a4 := hX.1.2.2.2
  have d1 := hX.2.1.2.2
  have d2 := hM.2.1.2
  by_cases ha : 0 ≤ a ∧ a ≤ 69
  · by_cases hp : kx_pr s b
    · by_cases hu : ¬ c < -1 ∧ c < nI m
      · by_cases hm8 : m = 8
        · refine kx_two (by decide) (Nat.le_of_ble_eq_true rfl) (by decide) (Nat.le_of_ble_eq_true rfl) ?_
          refine kx_st 0 (pc' := 0) (L' := [some (.ref 0), some (.int a), some (.int b), some (.int c)]) (st' := []) (h' := kv_wd g w) rfl ?_
          refine kx_st 2 (pc' := 3) (L' := [some (.ref 0), some (.int a), some (.int b), some (.int c)]) (st' := [.int 69, .int a]) (h' := kv_wd g w) rfl ?_
          refine kx_call (z := 124) (as := [.int a, .int 69]) (rest := []) (v := some (.int (kx_b (0 ≤ a ∧ a ≤ 69)))) (h1 := kv_wd g w) rfl (ev_within (d := 898) a 69) ?_
          refine kx_st 0 (pc' := 6) (L' := [some (.ref 0), some (.int a), some (.int b), some (.int c)]) (st' := [.int (kx_b (0 ≤ a ∧ a ≤ 69))]) (h' := kv_wd g w) rfl ?_
          refine kx_be (t := 36) rfl rfl (fun (h6 : ¬ (0 ≤ a ∧ a ≤ 69)) => ?_) (fun (h6 : (0 ≤ a ∧ a ≤ 69)) => ?_)
          · exact absurd ha h6
          · refine kx_st 0 (pc' := 9) (L' := [some (.ref 0), some (.int a), some (.int b), some (.int c)]) (st' := []) (h' := kv_wd g w) rfl ?_
            refine kx_st 3 (pc' := 14) (L' := [some (.ref 0), some (.int a), some (.int b), some (.int c)]) (st' := [.int b, .ref 1]) (h' := kv_wd g w) rfl ?_
            refine kx_call (z := 12) (as := [.ref 1, .int b]) (rest := []) (v := some (.int (kx_b (kx_pr s b)))) (h1 := kv_wd g w) rfl (ev_isPairS (d := 897) (g := g) (s := s) b1 a2 b) ?_
            refine kx_st 0 (pc' := 17) (L' := [some (.ref 0), some (.int a), some (.int b), some (.int c)]) (st' := [.int (kx_b (kx_pr s b))]) (h' := kv_wd g w) rfl ?_
            refine kx_be (t := 36) rfl rfl (fun (h17 : ¬ (kx_pr s b)) => ?_) (fun (h17 : (kx_pr s b)) => ?_)
            · exact absurd hp h17
            · refine kx_st 0 (pc' := 20) (L' := [some (.ref 0), some (.int a), some (.int b), some (.int c)]) (st' := []) (h' := kv_wd g w) rfl ?_
              refine kx_st 2 (pc' := 22) (L' := [some (.ref 0), some (.int a), some (.int b), some (.int c)]) (st' := [.int (-1), .int c]) (h' := kv_wd g w) rfl ?_
              refine kx_bi (t := 36) rfl rfl (fun (h22 : c < (-1)) => ?_) (fun (h22 : ¬ (c < (-1))) => ?_)
              · exact absurd h22 hu.1
              · refine kx_st 0 (pc' := 25) (L' := [some (.ref 0), some (.int a), some (.int b), some (.int c)]) (st' := []) (h' := kv_wd g w) rfl ?_
                refine kx_st 4 (pc' := 33) (L' := [some (.ref 0), some (.int a), some (.int b), some (.int c)]) (st' := [.int (g 1 4), .int c]) (h' := kv_wd g w) rfl ?_
                refine kx_bi (t := 42) rfl rfl (fun (h33 : c < g 1 4) => ?_) (fun (h33 : ¬ (c < g 1 4)) => ?_)
                · refine kx_st 4 (pc' := 51) (L' := [some (.ref 0), some (.int a), some (.int b), some (.int c)]) (st' := [.int 8, .int (g 1 4)]) (h' := kv_wd g w) rfl ?_
                  refine kx_bi (t := 60) rfl rfl (fun (h51 : g 1 4 < 8) => ?_) (fun (h51 : ¬ (g 1 4 < 8)) => ?_)
                  · exact absurd h51 (by rw [d1, hm8]; decide)
                  · refine kx_st 0 (pc' := 54) (L' := [some (.ref 0), some (.int a), some (.int b), some (.int c)]) (st' := []) (h' := kv_wd g w) rfl ?_
                    refine kx_st 2 (pc' := 56) (L' := [some (.ref 0), some (.int a), some (.int b), some (.int c)]) (st' := [.int 4, .ref 0]) (h' := kv_wd g w) rfl ?_
                    refine kx_call (z := 123) (as := [.ref 0, .int 4]) (rest := []) (v := some (.int (-1000000000 - nI 4))) (h1 := kv_wd (kv_up g 64 4 (g 64 4 + 1)) w) rfl (ev_error (d := 898) 4 (by decide) (by decide)) ?_
                    refine kx_st 0 (pc' := 59) (L' := [some (.ref 0), some (.int a), some (.int b), some (.int c)]) (st' := [.int (-1000000000 - nI 4)]) (h' := kv_wd (kv_up g 64 4 (g 64 4 + 1)) w) rfl ?_
                    refine kx_ret (v := some (.int (-1000000000 - nI 4))) rfl ?_
                    refine ⟨_, _, _, rfl, rfl, ?_⟩
                    refine kx_st 0 (pc' := 0) (L' := [some (.ref 65), some (.int a), some (.int b), some (.int c), none]) (st' := []) (h' := kv_wd (kv_up g 64 4 (g 64 4 + 1)) w) rfl ?_
                    refine kx_st 3 (pc' := 4) (L' := [some (.ref 65), some (.int a), some (.int b), some (.int c), none]) (st' := [.int 69, .int 0, .int a]) (h' := kv_wd (kv_up g 64 4 (g 64 4 + 1)) w) rfl ?_
                    refine kx_call (z := 130) (as := [.int a, .int 0, .int 69]) (rest := []) (v := some (.int (kx_b (0 ≤ a ∧ a ≤ 69)))) (h1 := kv_wd (kv_up g 64 4 (g 64 4 + 1)) w) rfl (ev_in (d := 898) a 0 69) ?_
                    refine kx_st 0 (pc' := 7) (L' := [some (.ref 65), some (.int a), some (.int b), some (.int c), none]) (st' := [.int (kx_b (0 ≤ a ∧ a ≤ 69))]) (h' := kv_wd (kv_up g 64 4 (g 64 4 + 1)) w) rfl ?_
                    refine kx_be (t := 34) rfl rfl (fun (m7 : ¬ (0 ≤ a ∧ a ≤ 69)) => ?_) (fun (m7 : (0 ≤ a ∧ a ≤ 69)) => ?_)
                    · exact absurd ha m7
                    · refine kx_st 0 (pc' := 10) (L' := [some (.ref 65), some (.int a), some (.int b), some (.int c), none]) (st' := []) (h' := kv_wd (kv_up g 64 4 (g 64 4 + 1)) w) rfl ?_
                      refine kx_st 2 (pc' := 12) (L' := [some (.ref 65), some (.int a), some (.int b), some (.int c), none]) (st' := [.int b, .ref 65]) (h' := kv_wd (kv_up g 64 4 (g 64 4 + 1)) w) rfl ?_
                      refine kx_call (z := 140) (as := [.ref 65, .int b]) (rest := []) (v := some (.int (kx_b (kx_pr s b)))) (h1 := kv_wd (kv_up g 64 4 (g 64 4 + 1)) w) rfl (ev_mPairS (d := 896) (g := kv_up g 64 4 (g 64 4 + 1)) (s := s) b2 a2 b) ?_
                      refine kx_st 0 (pc' := 15) (L' := [some (.ref 65), some (.int a), some (.int b), some (.int c), none]) (st' := [.int (kx_b (kx_pr s b))]) (h' := kv_wd (kv_up g 64 4 (g 64 4 + 1)) w) rfl ?_
                      refine kx_be (t := 34) rfl rfl (fun (m15 : ¬ (kx_pr s b)) => ?_) (fun (m15 : (kx_pr s b)) => ?_)
                      · exact absurd hp m15
                      · refine kx_st 0 (pc' := 18) (L' := [some (.ref 65), some (.int a), some (.int b), some (.int c), none]) (st' := []) (h' := kv_wd (kv_up g 64 4 (g 64 4 + 1)) w) rfl ?_
                        refine kx_st 5 (pc' := 25) (L' := [some (.ref 65), some (.int a), some (.int b), some (.int c), none]) (st' := [.int 2, .ref 66, .int (-1), .int c]) (h' := kv_wd (kv_up g 64 4 (g 64 4 + 1)) w) rfl ?_
                        refine kx_ia (k := 2) rfl rfl (by decide) rfl (by decide) (by decide) ?_
                        refine kx_st 2 (pc' := 28) (L' := [some (.ref 65), some (.int a), some (.int b), some (.int c), none]) (st' := [.int (((kv_up g 64 4 (g 64 4 + 1)) 66 2) - 1), .int (-1), .int c]) (h' := kv_wd (kv_up g 64 4 (g 64 4 + 1)) w) rfl ?_
                        refine kx_call (z := 130) (as := [.int c, .int (-1), .int (((kv_up g 64 4 (g 64 4 + 1)) 66 2) - 1)]) (rest := []) (v := some (.int (kx_b ((-1) ≤ c ∧ c ≤ ((kv_up g 64 4 (g 64 4 + 1)) 66 2) - 1)))) (h1 := kv_wd (kv_up g 64 4 (g 64 4 + 1)) w) rfl (ev_in (d := 898) c (-1) (((kv_up g 64 4 (g 64 4 + 1)) 66 2) - 1)) ?_
                        refine kx_st 0 (pc' := 31) (L' := [some (.ref 65), some (.int a), some (.int b), some (.int c), none]) (st' := [.int (kx_b ((-1) ≤ c ∧ c ≤ ((kv_up g 64 4 (g 64 4 + 1)) 66 2) - 1))]) (h' := kv_wd (kv_up g 64 4 (g 64 4 + 1)) w) rfl ?_
                        refine kx_bn (t := 41) rfl rfl (fun (m31 : ((-1) ≤ c ∧ c ≤ ((kv_up g 64 4 (g 64 4 + 1)) 66 2) - 1)) => ?_) (fun (m31 : ¬ ((-1) ≤ c ∧ c ≤ ((kv_up g 64 4 (g 64 4 + 1)) 66 2) - 1)) => ?_)
                        · refine kx_st 3 (pc' := 46) (L' := [some (.ref 65), some (.int a), some (.int b), some (.int c), none]) (st' := [.int 2, .ref 66]) (h' := kv_wd (kv_up g 64 4 (g 64 4 + 1)) w) rfl ?_
                          refine kx_ia (k := 2) rfl rfl (by decide) rfl (by decide) (by decide) ?_
                          refine kx_st 1 (pc' := 49) (L' := [some (.ref 65), some (.int a), some (.int b), some (.int c), none]) (st' := [.int 8, .int ((kv_up g 64 4 (g 64 4 + 1)) 66 2)]) (h' := kv_wd (kv_up g 64 4 (g 64 4 + 1)) w) rfl ?_
                          refine kx_bi (t := 59) rfl rfl (fun (m49 : ¬ (kv_up g 64 4 (g 64 4 + 1)) 66 2 = 8) => ?_) (fun (m49 : ¬ (¬ (kv_up g 64 4 (g 64 4 + 1)) 66 2 = 8)) => ?_)
                          · exact absurd (show g 66 2 = 8 by rw [d2, hm8]; rfl) m49
                          · refine kx_st 0 (pc' := 52) (L' := [some (.ref 65), some (.int a), some (.int b), some (.int c), none]) (st' := []) (h' := kv_wd (kv_up g 64 4 (g 64 4 + 1)) w) rfl ?_
                            refine kx_st 2 (pc' := 55) (L' := [some (.ref 65), some (.int a), some (.int b), some (.int c), none]) (st' := [.int (-1000000004), .ref 65]) (h' := kv_wd (kv_up g 64 4 (g 64 4 + 1)) w) rfl ?_
                            refine kx_call (z := 131) (as := [.ref 65, .int (-1000000004)]) (rest := []) (v := some (.int (-1000000004))) (h1 := kv_wd (kv_up (kv_up g 64 4 (g 64 4 + 1)) 70 4 ((kv_up g 64 4 (g 64 4 + 1)) 70 4 + 1)) w) rfl (ev_errs (d := 898) (-1000000004) 4 (by decide) (by decide)) ?_
                            refine kx_st 0 (pc' := 58) (L' := [some (.ref 65), some (.int a), some (.int b), some (.int c), none]) (st' := [.int (-1000000004)]) (h' := kv_wd (kv_up (kv_up g 64 4 (g 64 4 + 1)) 70 4 ((kv_up g 64 4 (g 64 4 + 1)) 70 4 + 1)) w) rfl ?_
                            refine kx_ret (v := some (.int (-1000000004))) rfl ?_
                            exact ⟨rfl, _, _, rfl, kx_Rl_e hR⟩
                        · exact absurd (show -1 ≤ c ∧ c ≤ g 66 2 - 1 by rw [d2]; exact (kx_un a4).mpr hu) m31
                · exact absurd (by rw [d1]; exact hu.2) h33
        · obtain ⟨x, y, hx, hy, hxy, e10, e11, -⟩ := kx_pr_of a2 hp
          have m7 : m < 8 := by omega
          by_cases ht : t.testBit x = true ∧ t.testBit y = true
          · refine kx_two (by decide) (Nat.le_of_ble_eq_true rfl) (by decide) (Nat.le_of_ble_eq_true rfl) ?_
            refine kx_st 0 (pc' := 0) (L' := [some (.ref 0), some (.int a), some (.int b), some (.int c)]) (st' := []) (h' := kv_wd g w) rfl ?_
            refine kx_st 2 (pc' := 3) (L' := [some (.ref 0), some (.int a), some (.int b), some (.int c)]) (st' := [.int 69, .int a]) (h' := kv_wd g w) rfl ?_
            refine kx_call (z := 124) (as := [.int a, .int 69]) (rest := []) (v := some (.int (kx_b (0 ≤ a ∧ a ≤ 69)))) (h1 := kv_wd g w) rfl (ev_within (d := 898) a 69) ?_
            refine kx_st 0 (pc' := 6) (L' := [some (.ref 0), some (.int a), some (.int b), some (.int c)]) (st' := [.int (kx_b (0 ≤ a ∧ a ≤ 69))]) (h' := kv_wd g w) rfl ?_
            refine kx_be (t := 36) rfl rfl (fun (h6 : ¬ (0 ≤ a ∧ a ≤ 69)) => ?_) (fun (h6 : (0 ≤ a ∧ a ≤ 69)) => ?_)
            · exact absurd ha h6
            · refine kx_st 0 (pc' := 9) (L' := [some (.ref 0), some (.int a), some (.int b), some (.int c)]) (st' := []) (h' := kv_wd g w) rfl ?_
              refine kx_st 3 (pc' := 14) (L' := [some (.ref 0), some (.int a), some (.int b), some (.int c)]) (st' := [.int b, .ref 1]) (h' := kv_wd g w) rfl ?_
              refine kx_call (z := 12) (as := [.ref 1, .int b]) (rest := []) (v := some (.int (kx_b (kx_pr s b)))) (h1 := kv_wd g w) rfl (ev_isPairS (d := 897) (g := g) (s := s) b1 a2 b) ?_
              refine kx_st 0 (pc' := 17) (L' := [some (.ref 0), some (.int a), some (.int b), some (.int c)]) (st' := [.int (kx_b (kx_pr s b))]) (h' := kv_wd g w) rfl ?_
              refine kx_be (t := 36) rfl rfl (fun (h17 : ¬ (kx_pr s b)) => ?_) (fun (h17 : (kx_pr s b)) => ?_)
              · exact absurd hp h17
              · refine kx_st 0 (pc' := 20) (L' := [some (.ref 0), some (.int a), some (.int b), some (.int c)]) (st' := []) (h' := kv_wd g w) rfl ?_
                refine kx_st 2 (pc' := 22) (L' := [some (.ref 0), some (.int a), some (.int b), some (.int c)]) (st' := [.int (-1), .int c]) (h' := kv_wd g w) rfl ?_
                refine kx_bi (t := 36) rfl rfl (fun (h22 : c < (-1)) => ?_) (fun (h22 : ¬ (c < (-1))) => ?_)
                · exact absurd h22 hu.1
                · refine kx_st 0 (pc' := 25) (L' := [some (.ref 0), some (.int a), some (.int b), some (.int c)]) (st' := []) (h' := kv_wd g w) rfl ?_
                  refine kx_st 4 (pc' := 33) (L' := [some (.ref 0), some (.int a), some (.int b), some (.int c)]) (st' := [.int (g 1 4), .int c]) (h' := kv_wd g w) rfl ?_
                  refine kx_bi (t := 42) rfl rfl (fun (h33 : c < g 1 4) => ?_) (fun (h33 : ¬ (c < g 1 4)) => ?_)
                  · refine kx_st 4 (pc' := 51) (L' := [some (.ref 0), some (.int a), some (.int b), some (.int c)]) (st' := [.int 8, .int (g 1 4)]) (h' := kv_wd g w) rfl ?_
                    refine kx_bi (t := 60) rfl rfl (fun (h51 : g 1 4 < 8) => ?_) (fun (h51 : ¬ (g 1 4 < 8)) => ?_)
                    · refine kx_st 4 (pc' := 67) (L' := [some (.ref 0), some (.int a), some (.int b), some (.int c)]) (st' := [.int 10, .int b, .ref 1]) (h' := kv_wd g w) rfl ?_
                      refine kx_dv rfl (by decide) ?_
                      refine kx_st 2 (pc' := 71) (L' := [some (.ref 0), some (.int a), some (.int b), some (.int c)]) (st' := [.int 10, .int b, .int (b / 10), .ref 1]) (h' := kv_wd g w) rfl ?_
                      refine kx_rm rfl (by decide) ?_
                      refine kx_call (z := 14) (as := [.ref 1, .int (b / 10), .int (b % 10)]) (rest := []) (v := some (.int (kx_b (t.testBit x = true ∧ t.testBit y = true)))) (h1 := kv_wd g w) rfl (by rw [e10, e11]; exact ev_areThereT (d := 896) (g := g) hX x y hx hy) ?_
                      refine kx_st 0 (pc' := 75) (L' := [some (.ref 0), some (.int a), some (.int b), some (.int c)]) (st' := [.int (kx_b (t.testBit x = true ∧ t.testBit y = true))]) (h' := kv_wd g w) rfl ?_
                      refine kx_bn (t := 84) rfl rfl (fun (h75 : (t.testBit x = true ∧ t.testBit y = true)) => ?_) (fun (h75 : ¬ (t.testBit x = true ∧ t.testBit y = true)) => ?_)
                      · refine kx_st 5 (pc' := 91) (L' := [some (.ref 0), some (.int a), some (.int b), some (.int c)]) (st' := [.int c, .int b, .int a, .ref 1]) (h' := kv_wd g w) rfl ?_
                        obtain ⟨g91, e91, r1, r2, r3, r4⟩ := ev_addKnot (E := E) (d := 896) (g := g) (w := w) q m m7 d1 a b c x y (by omega) (by omega) e10 e11
                        refine kx_call (z := 19) (as := [.ref 1, .int a, .int b, .int c]) (rest := []) (v := some (.int (nI m))) (h1 := kv_wd g91 w) rfl e91 ?_
                        refine kx_st 0 (pc' := 94) (L' := [some (.ref 0), some (.int a), some (.int b), some (.int c)]) (st' := [.int (nI m)]) (h' := kv_wd g91 w) rfl ?_
                        refine kx_ret (v := some (.int (nI m))) rfl ?_
                        have g2m : g91 66 2 = nI m := by rw [(r4 66 (by omega) (by omega))]; exact d2
                        have M91 : kx_M F0 F1 s t m K (g91 66) := by rw [(r4 66 (by omega) (by omega))]; exact hM
                        refine ⟨_, _, _, rfl, rfl, ?_⟩
                        refine kx_st 0 (pc' := 0) (L' := [some (.ref 65), some (.int a), some (.int b), some (.int c), none]) (st' := []) (h' := kv_wd g91 w) rfl ?_
                        refine kx_st 3 (pc' := 4) (L' := [some (.ref 65), some (.int a), some (.int b), some (.int c), none]) (st' := [.int 69, .int 0, .int a]) (h' := kv_wd g91 w) rfl ?_
                        refine kx_call (z := 130) (as := [.int a, .int 0, .int 69]) (rest := []) (v := some (.int (kx_b (0 ≤ a ∧ a ≤ 69)))) (h1 := kv_wd g91 w) rfl (ev_in (d := 898) a 0 69) ?_
                        refine kx_st 0 (pc' := 7) (L' := [some (.ref 65), some (.int a), some (.int b), some (.int c), none]) (st' := [.int (kx_b (0 ≤ a ∧ a ≤ 69))]) (h' := kv_wd g91 w) rfl ?_
                        refine kx_be (t := 34) rfl rfl (fun (z7 : ¬ (0 ≤ a ∧ a ≤ 69)) => ?_) (fun (z7 : (0 ≤ a ∧ a ≤ 69)) => ?_)
                        · exact absurd ha z7
                        · refine kx_st 0 (pc' := 10) (L' := [some (.ref 65), some (.int a), some (.int b), some (.int c), none]) (st' := []) (h' := kv_wd g91 w) rfl ?_
                          refine kx_st 2 (pc' := 12) (L' := [some (.ref 65), some (.int a), some (.int b), some (.int c), none]) (st' := [.int b, .ref 65]) (h' := kv_wd g91 w) rfl ?_
                          refine kx_call (z := 140) (as := [.ref 65, .int b]) (rest := []) (v := some (.int (kx_b (kx_pr s b)))) (h1 := kv_wd g91 w) rfl (ev_mPairS (d := 896) (g := g91) (s := s) M91.2.1.1 a2 b) ?_
                          refine kx_st 0 (pc' := 15) (L' := [some (.ref 65), some (.int a), some (.int b), some (.int c), none]) (st' := [.int (kx_b (kx_pr s b))]) (h' := kv_wd g91 w) rfl ?_
                          refine kx_be (t := 34) rfl rfl (fun (z15 : ¬ (kx_pr s b)) => ?_) (fun (z15 : (kx_pr s b)) => ?_)
                          · exact absurd hp z15
                          · refine kx_st 0 (pc' := 18) (L' := [some (.ref 65), some (.int a), some (.int b), some (.int c), none]) (st' := []) (h' := kv_wd g91 w) rfl ?_
                            refine kx_st 5 (pc' := 25) (L' := [some (.ref 65), some (.int a), some (.int b), some (.int c), none]) (st' := [.int 2, .ref 66, .int (-1), .int c]) (h' := kv_wd g91 w) rfl ?_
                            refine kx_ia (k := 2) rfl rfl (by decide) rfl (by decide) (by decide) ?_
                            refine kx_st 2 (pc' := 28) (L' := [some (.ref 65), some (.int a), some (.int b), some (.int c), none]) (st' := [.int ((g91 66 2) - 1), .int (-1), .int c]) (h' := kv_wd g91 w) rfl ?_
                            refine kx_call (z := 130) (as := [.int c, .int (-1), .int ((g91 66 2) - 1)]) (rest := []) (v := some (.int (kx_b ((-1) ≤ c ∧ c ≤ (g91 66 2) - 1)))) (h1 := kv_wd g91 w) rfl (ev_in (d := 898) c (-1) ((g91 66 2) - 1)) ?_
                            refine kx_st 0 (pc' := 31) (L' := [some (.ref 65), some (.int a), some (.int b), some (.int c), none]) (st' := [.int (kx_b ((-1) ≤ c ∧ c ≤ (g91 66 2) - 1))]) (h' := kv_wd g91 w) rfl ?_
                            refine kx_bn (t := 41) rfl rfl (fun (z31 : ((-1) ≤ c ∧ c ≤ (g91 66 2) - 1)) => ?_) (fun (z31 : ¬ ((-1) ≤ c ∧ c ≤ (g91 66 2) - 1)) => ?_)
                            · refine kx_st 3 (pc' := 46) (L' := [some (.ref 65), some (.int a), some (.int b), some (.int c), none]) (st' := [.int 2, .ref 66]) (h' := kv_wd g91 w) rfl ?_
                              refine kx_ia (k := 2) rfl rfl (by decide) rfl (by decide) (by decide) ?_
                              refine kx_st 1 (pc' := 49) (L' := [some (.ref 65), some (.int a), some (.int b), some (.int c), none]) (st' := [.int 8, .int (g91 66 2)]) (h' := kv_wd g91 w) rfl ?_
                              refine kx_bi (t := 59) rfl rfl (fun (z49 : ¬ g91 66 2 = 8) => ?_) (fun (z49 : ¬ (¬ g91 66 2 = 8)) => ?_)
                              · refine kx_st 3 (pc' := 63) (L' := [some (.ref 65), some (.int a), some (.int b), some (.int c), none]) (st' := [.int 10, .int b, .ref 65]) (h' := kv_wd g91 w) rfl ?_
                                refine kx_dv rfl (by decide) ?_
                                refine kx_call (z := 141) (as := [.ref 65, .int (b / 10)]) (rest := []) (v := some (.int (kx_b (t.testBit x = true)))) (h1 := kv_wd g91 w) rfl (by rw [e10]; exact ev_mThereT (d := 898) (g := g91) M91 x hx) ?_
                                refine kx_st 0 (pc' := 67) (L' := [some (.ref 65), some (.int a), some (.int b), some (.int c), none]) (st' := [.int (kx_b (t.testBit x = true))]) (h' := kv_wd g91 w) rfl ?_
                                refine kx_be (t := 81) rfl rfl (fun (z67 : ¬ (t.testBit x = true)) => ?_) (fun (z67 : (t.testBit x = true)) => ?_)
                                · exact absurd ht.1 z67
                                · refine kx_st 0 (pc' := 70) (L' := [some (.ref 65), some (.int a), some (.int b), some (.int c), none]) (st' := []) (h' := kv_wd g91 w) rfl ?_
                                  refine kx_st 3 (pc' := 74) (L' := [some (.ref 65), some (.int a), some (.int b), some (.int c), none]) (st' := [.int 10, .int b, .ref 65]) (h' := kv_wd g91 w) rfl ?_
                                  refine kx_rm rfl (by decide) ?_
                                  refine kx_call (z := 141) (as := [.ref 65, .int (b % 10)]) (rest := []) (v := some (.int (kx_b (t.testBit y = true)))) (h1 := kv_wd g91 w) rfl (by rw [e11]; exact ev_mThereT (d := 898) (g := g91) M91 y hy) ?_
                                  refine kx_st 0 (pc' := 78) (L' := [some (.ref 65), some (.int a), some (.int b), some (.int c), none]) (st' := [.int (kx_b (t.testBit y = true))]) (h' := kv_wd g91 w) rfl ?_
                                  refine kx_bn (t := 88) rfl rfl (fun (z78 : (t.testBit y = true)) => ?_) (fun (z78 : ¬ (t.testBit y = true)) => ?_)
                                  · refine kx_st 3 (pc' := 93) (L' := [some (.ref 65), some (.int a), some (.int b), some (.int c), none]) (st' := [.int 2, .ref 66]) (h' := kv_wd g91 w) rfl ?_
                                    refine kx_ia (k := 2) rfl rfl (by decide) rfl (by decide) (by decide) ?_
                                    refine kx_st 6 (pc' := 103) (L' := [some (.ref 65), some (.int a), some (.int b), some (.int c), some (.int (g91 66 2))]) (st' := [.int 10, .int a, .int 0, .int (g91 66 2), .ref 65]) (h' := kv_wd g91 w) rfl ?_
                                    refine kx_dv rfl (by decide) ?_
                                    refine kx_call (z := 137) (as := [.ref 65, .int (g91 66 2), .int 0, .int (a / 10)]) (rest := []) (v := none) (h1 := kv_wd (kv_up g91 66 (26 + 9 * m + 0) (a / 10)) w) rfl (by rw [g2m]; exact ev_gets (d := 898) m 0 (by omega) (a / 10)) ?_
                                    refine kx_st 0 (pc' := 107) (L' := [some (.ref 65), some (.int a), some (.int b), some (.int c), some (.int (g91 66 2))]) (st' := []) (h' := kv_wd (kv_up g91 66 (26 + 9 * m + 0) (a / 10)) w) rfl ?_
                                    refine kx_st 5 (pc' := 114) (L' := [some (.ref 65), some (.int a), some (.int b), some (.int c), some (.int (g91 66 2))]) (st' := [.int 10, .int a, .int 1, .int (g91 66 2), .ref 65]) (h' := kv_wd (kv_up g91 66 (26 + 9 * m + 0) (a / 10)) w) rfl ?_
                                    refine kx_rm rfl (by decide) ?_
                                    refine kx_call (z := 137) (as := [.ref 65, .int (g91 66 2), .int 1, .int (a % 10)]) (rest := []) (v := none) (h1 := kv_wd (kv_up (kv_up g91 66 (26 + 9 * m + 0) (a / 10)) 66 (26 + 9 * m + 1) (a % 10)) w) rfl (by rw [g2m]; exact ev_gets (d := 898) m 1 (by omega) (a % 10)) ?_
                                    refine kx_st 0 (pc' := 118) (L' := [some (.ref 65), some (.int a), some (.int b), some (.int c), some (.int (g91 66 2))]) (st' := []) (h' := kv_wd (kv_up (kv_up g91 66 (26 + 9 * m + 0) (a / 10)) 66 (26 + 9 * m + 1) (a % 10)) w) rfl ?_
                                    refine kx_st 5 (pc' := 125) (L' := [some (.ref 65), some (.int a), some (.int b), some (.int c), some (.int (g91 66 2))]) (st' := [.int 10, .int b, .int 2, .int (g91 66 2), .ref 65]) (h' := kv_wd (kv_up (kv_up g91 66 (26 + 9 * m + 0) (a / 10)) 66 (26 + 9 * m + 1) (a % 10)) w) rfl ?_
                                    refine kx_dv rfl (by decide) ?_
                                    refine kx_call (z := 137) (as := [.ref 65, .int (g91 66 2), .int 2, .int (b / 10)]) (rest := []) (v := none) (h1 := kv_wd (kv_up (kv_up (kv_up g91 66 (26 + 9 * m + 0) (a / 10)) 66 (26 + 9 * m + 1) (a % 10)) 66 (26 + 9 * m + 2) (b / 10)) w) rfl (by rw [g2m]; exact ev_gets (d := 898) m 2 (by omega) (b / 10)) ?_
                                    refine kx_st 0 (pc' := 129) (L' := [some (.ref 65), some (.int a), some (.int b), some (.int c), some (.int (g91 66 2))]) (st' := []) (h' := kv_wd (kv_up (kv_up (kv_up g91 66 (26 + 9 * m + 0) (a / 10)) 66 (26 + 9 * m + 1) (a % 10)) 66 (26 + 9 * m + 2) (b / 10)) w) rfl ?_
                                    refine kx_st 5 (pc' := 136) (L' := [some (.ref 65), some (.int a), some (.int b), some (.int c), some (.int (g91 66 2))]) (st' := [.int 10, .int b, .int 3, .int (g91 66 2), .ref 65]) (h' := kv_wd (kv_up (kv_up (kv_up g91 66 (26 + 9 * m + 0) (a / 10)) 66 (26 + 9 * m + 1) (a % 10)) 66 (26 + 9 * m + 2) (b / 10)) w) rfl ?_
                                    refine kx_rm rfl (by decide) ?_
                                    refine kx_call (z := 137) (as := [.ref 65, .int (g91 66 2), .int 3, .int (b % 10)]) (rest := []) (v := none) (h1 := kv_wd (kv_up (kv_up (kv_up (kv_up g91 66 (26 + 9 * m + 0) (a / 10)) 66 (26 + 9 * m + 1) (a % 10)) 66 (26 + 9 * m + 2) (b / 10)) 66 (26 + 9 * m + 3) (b % 10)) w) rfl (by rw [g2m]; exact ev_gets (d := 898) m 3 (by omega) (b % 10)) ?_
                                    refine kx_st 0 (pc' := 140) (L' := [some (.ref 65), some (.int a), some (.int b), some (.int c), some (.int (g91 66 2))]) (st' := []) (h' := kv_wd (kv_up (kv_up (kv_up (kv_up g91 66 (26 + 9 * m + 0) (a / 10)) 66 (26 + 9 * m + 1) (a % 10)) 66 (26 + 9 * m + 2) (b / 10)) 66 (26 + 9 * m + 3) (b % 10)) w) rfl ?_
                                    refine kx_st 6 (pc' := 148) (L' := [some (.ref 65), some (.int a), some (.int b), some (.int c), some (.int (g91 66 2))]) (st' := [.int 10, .int b, .ref 65, .int 4, .int (g91 66 2), .ref 65]) (h' := kv_wd (kv_up (kv_up (kv_up (kv_up g91 66 (26 + 9 * m + 0) (a / 10)) 66 (26 + 9 * m + 1) (a % 10)) 66 (26 + 9 * m + 2) (b / 10)) 66 (26 + 9 * m + 3) (b % 10)) w) rfl ?_
                                    refine kx_dv rfl (by decide) ?_
                                    refine kx_st 2 (pc' := 152) (L' := [some (.ref 65), some (.int a), some (.int b), some (.int c), some (.int (g91 66 2))]) (st' := [.int 10, .int b, .int (b / 10), .ref 65, .int 4, .int (g91 66 2), .ref 65]) (h' := kv_wd (kv_up (kv_up (kv_up (kv_up g91 66 (26 + 9 * m + 0) (a / 10)) 66 (26 + 9 * m + 1) (a % 10)) 66 (26 + 9 * m + 2) (b / 10)) 66 (26 + 9 * m + 3) (b % 10)) w) rfl ?_
                                    refine kx_rm rfl (by decide) ?_
                                    have ec := ev_crossed (E := E) (d := 898) (g := kv_up (kv_up (kv_up (kv_up g91 66 (26 + 9 * m + 0) (a / 10)) 66 (26 + 9 * m + 1) (a % 10)) 66 (26 + 9 * m + 2) (b / 10)) 66 (26 + 9 * m + 3) (b % 10)) (w := w) x y (by omega) (by omega)
                                    rw [show (kv_up (kv_up (kv_up (kv_up g91 66 (26 + 9 * m + 0) (a / 10)) 66 (26 + 9 * m + 1) (a % 10)) 66 (26 + 9 * m + 2) (b / 10)) 66 (26 + 9 * m + 3) (b % 10)) 66 (8 + x) = g 66 (8 + x) from by rw [kv_up_at, kx_upn (by omega), kv_up_at, kx_upn (by omega), kv_up_at, kx_upn (by omega), kv_up_at, kx_upn (by omega), (r4 66 (by omega) (by omega))], show (kv_up (kv_up (kv_up (kv_up g91 66 (26 + 9 * m + 0) (a / 10)) 66 (26 + 9 * m + 1) (a % 10)) 66 (26 + 9 * m + 2) (b / 10)) 66 (26 + 9 * m + 3) (b % 10)) 66 (14 + y) = g 66 (14 + y) from by rw [kv_up_at, kx_upn (by omega), kv_up_at, kx_upn (by omega), kv_up_at, kx_upn (by omega), kv_up_at, kx_upn (by omega), (r4 66 (by omega) (by omega))]] at ec
                                    refine kx_call (z := 146) (as := [.ref 65, .int (b / 10), .int (b % 10)]) (rest := [.int 4, .int (g91 66 2), .ref 65]) (v := some (.int (g 66 (8 + x) + g 66 (14 + y)))) (h1 := kv_wd (kv_up (kv_up (kv_up (kv_up g91 66 (26 + 9 * m + 0) (a / 10)) 66 (26 + 9 * m + 1) (a % 10)) 66 (26 + 9 * m + 2) (b / 10)) 66 (26 + 9 * m + 3) (b % 10)) w) rfl (by rw [← e10, ← e11] at ec; exact ec) ?_
                                    refine kx_st 0 (pc' := 156) (L' := [some (.ref 65), some (.int a), some (.int b), some (.int c), some (.int (g91 66 2))]) (st' := [.int (g 66 (8 + x) + g 66 (14 + y)), .int 4, .int (g91 66 2), .ref 65]) (h' := kv_wd (kv_up (kv_up (kv_up (kv_up g91 66 (26 + 9 * m + 0) (a / 10)) 66 (26 + 9 * m + 1) (a % 10)) 66 (26 + 9 * m + 2) (b / 10)) 66 (26 + 9 * m + 3) (b % 10)) w) rfl ?_
                                    refine kx_call (z := 137) (as := [.ref 65, .int (g91 66 2), .int 4, .int (g 66 (8 + x) + g 66 (14 + y))]) (rest := []) (v := none) (h1 := kv_wd (kv_up (kv_up (kv_up (kv_up (kv_up g91 66 (26 + 9 * m + 0) (a / 10)) 66 (26 + 9 * m + 1) (a % 10)) 66 (26 + 9 * m + 2) (b / 10)) 66 (26 + 9 * m + 3) (b % 10)) 66 (26 + 9 * m + 4) (g 66 (8 + x) + g 66 (14 + y))) w) rfl (by rw [g2m]; exact ev_gets (d := 898) m 4 (by omega) (g 66 (8 + x) + g 66 (14 + y))) ?_
                                    refine kx_st 0 (pc' := 159) (L' := [some (.ref 65), some (.int a), some (.int b), some (.int c), some (.int (g91 66 2))]) (st' := []) (h' := kv_wd (kv_up (kv_up (kv_up (kv_up (kv_up g91 66 (26 + 9 * m + 0) (a / 10)) 66 (26 + 9 * m + 1) (a % 10)) 66 (26 + 9 * m + 2) (b / 10)) 66 (26 + 9 * m + 3) (b % 10)) 66 (26 + 9 * m + 4) (g 66 (8 + x) + g 66 (14 + y))) w) rfl ?_
                                    refine kx_st 6 (pc' := 168) (L' := [some (.ref 65), some (.int a), some (.int b), some (.int c), some (.int (g91 66 2))]) (st' := [.int 0, .ref 66, .int 5, .int (g91 66 2), .ref 65]) (h' := kv_wd (kv_up (kv_up (kv_up (kv_up (kv_up g91 66 (26 + 9 * m + 0) (a / 10)) 66 (26 + 9 * m + 1) (a % 10)) 66 (26 + 9 * m + 2) (b / 10)) 66 (26 + 9 * m + 3) (b % 10)) 66 (26 + 9 * m + 4) (g 66 (8 + x) + g 66 (14 + y))) w) rfl ?_
                                    refine kx_ia (k := 0) rfl rfl (by decide) rfl (by decide) (by decide) ?_
                                    refine kx_call (z := 137) (as := [.ref 65, .int (g91 66 2), .int 5, .int ((kv_up (kv_up (kv_up (kv_up (kv_up g91 66 (26 + 9 * m + 0) (a / 10)) 66 (26 + 9 * m + 1) (a % 10)) 66 (26 + 9 * m + 2) (b / 10)) 66 (26 + 9 * m + 3) (b % 10)) 66 (26 + 9 * m + 4) (g 66 (8 + x) + g 66 (14 + y))) 66 0)]) (rest := []) (v := none) (h1 := kv_wd (kv_up (kv_up (kv_up (kv_up (kv_up (kv_up g91 66 (26 + 9 * m + 0) (a / 10)) 66 (26 + 9 * m + 1) (a % 10)) 66 (26 + 9 * m + 2) (b / 10)) 66 (26 + 9 * m + 3) (b % 10)) 66 (26 + 9 * m + 4) (g 66 (8 + x) + g 66 (14 + y))) 66 (26 + 9 * m + 5) ((kv_up (kv_up (kv_up (kv_up (kv_up g91 66 (26 + 9 * m + 0) (a / 10)) 66 (26 + 9 * m + 1) (a % 10)) 66 (26 + 9 * m + 2) (b / 10)) 66 (26 + 9 * m + 3) (b % 10)) 66 (26 + 9 * m + 4) (g 66 (8 + x) + g 66 (14 + y))) 66 0)) w) rfl (by rw [g2m]; exact ev_gets (d := 898) m 5 (by omega) ((kv_up (kv_up (kv_up (kv_up (kv_up g91 66 (26 + 9 * m + 0) (a / 10)) 66 (26 + 9 * m + 1) (a % 10)) 66 (26 + 9 * m + 2) (b / 10)) 66 (26 + 9 * m + 3) (b % 10)) 66 (26 + 9 * m + 4) (g 66 (8 + x) + g 66 (14 + y))) 66 0)) ?_
                                    refine kx_st 0 (pc' := 172) (L' := [some (.ref 65), some (.int a), some (.int b), some (.int c), some (.int (g91 66 2))]) (st' := []) (h' := kv_wd (kv_up (kv_up (kv_up (kv_up (kv_up (kv_up g91 66 (26 + 9 * m + 0) (a / 10)) 66 (26 + 9 * m + 1) (a % 10)) 66 (26 + 9 * m + 2) (b / 10)) 66 (26 + 9 * m + 3) (b % 10)) 66 (26 + 9 * m + 4) (g 66 (8 + x) + g 66 (14 + y))) 66 (26 + 9 * m + 5) ((kv_up (kv_up (kv_up (kv_up (kv_up g91 66 (26 + 9 * m + 0) (a / 10)) 66 (26 + 9 * m + 1) (a % 10)) 66 (26 + 9 * m + 2) (b / 10)) 66 (26 + 9 * m + 3) (b % 10)) 66 (26 + 9 * m + 4) (g 66 (8 + x) + g 66 (14 + y))) 66 0)) w) rfl ?_
                                    refine kx_st 4 (pc' := 178) (L' := [some (.ref 65), some (.int a), some (.int b), some (.int c), some (.int (g91 66 2))]) (st' := [.int c, .int 6, .int (g91 66 2), .ref 65]) (h' := kv_wd (kv_up (kv_up (kv_up (kv_up (kv_up (kv_up g91 66 (26 + 9 * m + 0) (a / 10)) 66 (26 + 9 * m + 1) (a % 10)) 66 (26 + 9 * m + 2) (b / 10)) 66 (26 + 9 * m + 3) (b % 10)) 66 (26 + 9 * m + 4) (g 66 (8 + x) + g 66 (14 + y))) 66 (26 + 9 * m + 5) ((kv_up (kv_up (kv_up (kv_up (kv_up g91 66 (26 + 9 * m + 0) (a / 10)) 66 (26 + 9 * m + 1) (a % 10)) 66 (26 + 9 * m + 2) (b / 10)) 66 (26 + 9 * m + 3) (b % 10)) 66 (26 + 9 * m + 4) (g 66 (8 + x) + g 66 (14 + y))) 66 0)) w) rfl ?_
                                    refine kx_call (z := 137) (as := [.ref 65, .int (g91 66 2), .int 6, .int c]) (rest := []) (v := none) (h1 := kv_wd (kv_up (kv_up (kv_up (kv_up (kv_up (kv_up (kv_up g91 66 (26 + 9 * m + 0) (a / 10)) 66 (26 + 9 * m + 1) (a % 10)) 66 (26 + 9 * m + 2) (b / 10)) 66 (26 + 9 * m + 3) (b % 10)) 66 (26 + 9 * m + 4) (g 66 (8 + x) + g 66 (14 + y))) 66 (26 + 9 * m + 5) ((kv_up (kv_up (kv_up (kv_up (kv_up g91 66 (26 + 9 * m + 0) (a / 10)) 66 (26 + 9 * m + 1) (a % 10)) 66 (26 + 9 * m + 2) (b / 10)) 66 (26 + 9 * m + 3) (b % 10)) 66 (26 + 9 * m + 4) (g 66 (8 + x) + g 66 (14 + y))) 66 0)) 66 (26 + 9 * m + 6) c) w) rfl (by rw [g2m]; exact ev_gets (d := 898) m 6 (by omega) c) ?_
                                    refine kx_st 0 (pc' := 181) (L' := [some (.ref 65), some (.int a), some (.int b), some (.int c), some (.int (g91 66 2))]) (st' := []) (h' := kv_wd (kv_up (kv_up (kv_up (kv_up (kv_up (kv_up (kv_up g91 66 (26 + 9 * m + 0) (a / 10)) 66 (26 + 9 * m + 1) (a % 10)) 66 (26 + 9 * m + 2) (b / 10)) 66 (26 + 9 * m + 3) (b % 10)) 66 (26 + 9 * m + 4) (g 66 (8 + x) + g 66 (14 + y))) 66 (26 + 9 * m + 5) ((kv_up (kv_up (kv_up (kv_up (kv_up g91 66 (26 + 9 * m + 0) (a / 10)) 66 (26 + 9 * m + 1) (a % 10)) 66 (26 + 9 * m + 2) (b / 10)) 66 (26 + 9 * m + 3) (b % 10)) 66 (26 + 9 * m + 4) (g 66 (8 + x) + g 66 (14 + y))) 66 0)) 66 (26 + 9 * m + 6) c) w) rfl ?_
                                    refine kx_st 4 (pc' := 187) (L' := [some (.ref 65), some (.int a), some (.int b), some (.int c), some (.int (g91 66 2))]) (st' := [.int 1, .int 7, .int (g91 66 2), .ref 65]) (h' := kv_wd (kv_up (kv_up (kv_up (kv_up (kv_up (kv_up (kv_up g91 66 (26 + 9 * m + 0) (a / 10)) 66 (26 + 9 * m + 1) (a % 10)) 66 (26 + 9 * m + 2) (b / 10)) 66 (26 + 9 * m + 3) (b % 10)) 66 (26 + 9 * m + 4) (g 66 (8 + x) + g 66 (14 + y))) 66 (26 + 9 * m + 5) ((kv_up (kv_up (kv_up (kv_up (kv_up g91 66 (26 + 9 * m + 0) (a / 10)) 66 (26 + 9 * m + 1) (a % 10)) 66 (26 + 9 * m + 2) (b / 10)) 66 (26 + 9 * m + 3) (b % 10)) 66 (26 + 9 * m + 4) (g 66 (8 + x) + g 66 (14 + y))) 66 0)) 66 (26 + 9 * m + 6) c) w) rfl ?_
                                    refine kx_call (z := 137) (as := [.ref 65, .int (g91 66 2), .int 7, .int 1]) (rest := []) (v := none) (h1 := kv_wd (kv_up (kv_up (kv_up (kv_up (kv_up (kv_up (kv_up (kv_up g91 66 (26 + 9 * m + 0) (a / 10)) 66 (26 + 9 * m + 1) (a % 10)) 66 (26 + 9 * m + 2) (b / 10)) 66 (26 + 9 * m + 3) (b % 10)) 66 (26 + 9 * m + 4) (g 66 (8 + x) + g 66 (14 + y))) 66 (26 + 9 * m + 5) ((kv_up (kv_up (kv_up (kv_up (kv_up g91 66 (26 + 9 * m + 0) (a / 10)) 66 (26 + 9 * m + 1) (a % 10)) 66 (26 + 9 * m + 2) (b / 10)) 66 (26 + 9 * m + 3) (b % 10)) 66 (26 + 9 * m + 4) (g 66 (8 + x) + g 66 (14 + y))) 66 0)) 66 (26 + 9 * m + 6) c) 66 (26 + 9 * m + 7) 1) w) rfl (by rw [g2m]; exact ev_gets (d := 898) m 7 (by omega) 1) ?_
                                    refine kx_st 0 (pc' := 190) (L' := [some (.ref 65), some (.int a), some (.int b), some (.int c), some (.int (g91 66 2))]) (st' := []) (h' := kv_wd (kv_up (kv_up (kv_up (kv_up (kv_up (kv_up (kv_up (kv_up g91 66 (26 + 9 * m + 0) (a / 10)) 66 (26 + 9 * m + 1) (a % 10)) 66 (26 + 9 * m + 2) (b / 10)) 66 (26 + 9 * m + 3) (b % 10)) 66 (26 + 9 * m + 4) (g 66 (8 + x) + g 66 (14 + y))) 66 (26 + 9 * m + 5) ((kv_up (kv_up (kv_up (kv_up (kv_up g91 66 (26 + 9 * m + 0) (a / 10)) 66 (26 + 9 * m + 1) (a % 10)) 66 (26 + 9 * m + 2) (b / 10)) 66 (26 + 9 * m + 3) (b % 10)) 66 (26 + 9 * m + 4) (g 66 (8 + x) + g 66 (14 + y))) 66 0)) 66 (26 + 9 * m + 6) c) 66 (26 + 9 * m + 7) 1) w) rfl ?_
                                    refine kx_st 4 (pc' := 196) (L' := [some (.ref 65), some (.int a), some (.int b), some (.int c), some (.int (g91 66 2))]) (st' := [.int 0, .int 8, .int (g91 66 2), .ref 65]) (h' := kv_wd (kv_up (kv_up (kv_up (kv_up (kv_up (kv_up (kv_up (kv_up g91 66 (26 + 9 * m + 0) (a / 10)) 66 (26 + 9 * m + 1) (a % 10)) 66 (26 + 9 * m + 2) (b / 10)) 66 (26 + 9 * m + 3) (b % 10)) 66 (26 + 9 * m + 4) (g 66 (8 + x) + g 66 (14 + y))) 66 (26 + 9 * m + 5) ((kv_up (kv_up (kv_up (kv_up (kv_up g91 66 (26 + 9 * m + 0) (a / 10)) 66 (26 + 9 * m + 1) (a % 10)) 66 (26 + 9 * m + 2) (b / 10)) 66 (26 + 9 * m + 3) (b % 10)) 66 (26 + 9 * m + 4) (g 66 (8 + x) + g 66 (14 + y))) 66 0)) 66 (26 + 9 * m + 6) c) 66 (26 + 9 * m + 7) 1) w) rfl ?_
                                    refine kx_call (z := 137) (as := [.ref 65, .int (g91 66 2), .int 8, .int 0]) (rest := []) (v := none) (h1 := kv_wd (kv_up (kv_up (kv_up (kv_up (kv_up (kv_up (kv_up (kv_up (kv_up g91 66 (26 + 9 * m + 0) (a / 10)) 66 (26 + 9 * m + 1) (a % 10)) 66 (26 + 9 * m + 2) (b / 10)) 66 (26 + 9 * m + 3) (b % 10)) 66 (26 + 9 * m + 4) (g 66 (8 + x) + g 66 (14 + y))) 66 (26 + 9 * m + 5) ((kv_up (kv_up (kv_up (kv_up (kv_up g91 66 (26 + 9 * m + 0) (a / 10)) 66 (26 + 9 * m + 1) (a % 10)) 66 (26 + 9 * m + 2) (b / 10)) 66 (26 + 9 * m + 3) (b % 10)) 66 (26 + 9 * m + 4) (g 66 (8 + x) + g 66 (14 + y))) 66 0)) 66 (26 + 9 * m + 6) c) 66 (26 + 9 * m + 7) 1) 66 (26 + 9 * m + 8) 0) w) rfl (by rw [g2m]; exact ev_gets (d := 898) m 8 (by omega) 0) ?_
                                    refine kx_st 0 (pc' := 199) (L' := [some (.ref 65), some (.int a), some (.int b), some (.int c), some (.int (g91 66 2))]) (st' := []) (h' := kv_wd (kv_up (kv_up (kv_up (kv_up (kv_up (kv_up (kv_up (kv_up (kv_up g91 66 (26 + 9 * m + 0) (a / 10)) 66 (26 + 9 * m + 1) (a % 10)) 66 (26 + 9 * m + 2) (b / 10)) 66 (26 + 9 * m + 3) (b % 10)) 66 (26 + 9 * m + 4) (g 66 (8 + x) + g 66 (14 + y))) 66 (26 + 9 * m + 5) ((kv_up (kv_up (kv_up (kv_up (kv_up g91 66 (26 + 9 * m + 0) (a / 10)) 66 (26 + 9 * m + 1) (a % 10)) 66 (26 + 9 * m + 2) (b / 10)) 66 (26 + 9 * m + 3) (b % 10)) 66 (26 + 9 * m + 4) (g 66 (8 + x) + g 66 (14 + y))) 66 0)) 66 (26 + 9 * m + 6) c) 66 (26 + 9 * m + 7) 1) 66 (26 + 9 * m + 8) 0) w) rfl ?_
                                    refine kx_st 4 (pc' := 205) (L' := [some (.ref 65), some (.int a), some (.int b), some (.int c), some (.int (g91 66 2))]) (st' := [.int 2, .ref 66, .int 2, .ref 66]) (h' := kv_wd (kv_up (kv_up (kv_up (kv_up (kv_up (kv_up (kv_up (kv_up (kv_up g91 66 (26 + 9 * m + 0) (a / 10)) 66 (26 + 9 * m + 1) (a % 10)) 66 (26 + 9 * m + 2) (b / 10)) 66 (26 + 9 * m + 3) (b % 10)) 66 (26 + 9 * m + 4) (g 66 (8 + x) + g 66 (14 + y))) 66 (26 + 9 * m + 5) ((kv_up (kv_up (kv_up (kv_up (kv_up g91 66 (26 + 9 * m + 0) (a / 10)) 66 (26 + 9 * m + 1) (a % 10)) 66 (26 + 9 * m + 2) (b / 10)) 66 (26 + 9 * m + 3) (b % 10)) 66 (26 + 9 * m + 4) (g 66 (8 + x) + g 66 (14 + y))) 66 0)) 66 (26 + 9 * m + 6) c) 66 (26 + 9 * m + 7) 1) 66 (26 + 9 * m + 8) 0) w) rfl ?_
                                    refine kx_ia (k := 2) rfl rfl (by decide) rfl (by decide) (by decide) ?_
                                    refine kx_st 2 (pc' := 208) (L' := [some (.ref 65), some (.int a), some (.int b), some (.int c), some (.int (g91 66 2))]) (st' := [.int (((kv_up (kv_up (kv_up (kv_up (kv_up (kv_up (kv_up (kv_up (kv_up g91 66 (26 + 9 * m + 0) (a / 10)) 66 (26 + 9 * m + 1) (a % 10)) 66 (26 + 9 * m + 2) (b / 10)) 66 (26 + 9 * m + 3) (b % 10)) 66 (26 + 9 * m + 4) (g 66 (8 + x) + g 66 (14 + y))) 66 (26 + 9 * m + 5) ((kv_up (kv_up (kv_up (kv_up (kv_up g91 66 (26 + 9 * m + 0) (a / 10)) 66 (26 + 9 * m + 1) (a % 10)) 66 (26 + 9 * m + 2) (b / 10)) 66 (26 + 9 * m + 3) (b % 10)) 66 (26 + 9 * m + 4) (g 66 (8 + x) + g 66 (14 + y))) 66 0)) 66 (26 + 9 * m + 6) c) 66 (26 + 9 * m + 7) 1) 66 (26 + 9 * m + 8) 0) 66 2) + 1), .int 2, .ref 66]) (h' := kv_wd (kv_up (kv_up (kv_up (kv_up (kv_up (kv_up (kv_up (kv_up (kv_up g91 66 (26 + 9 * m + 0) (a / 10)) 66 (26 + 9 * m + 1) (a % 10)) 66 (26 + 9 * m + 2) (b / 10)) 66 (26 + 9 * m + 3) (b % 10)) 66 (26 + 9 * m + 4) (g 66 (8 + x) + g 66 (14 + y))) 66 (26 + 9 * m + 5) ((kv_up (kv_up (kv_up (kv_up (kv_up g91 66 (26 + 9 * m + 0) (a / 10)) 66 (26 + 9 * m + 1) (a % 10)) 66 (26 + 9 * m + 2) (b / 10)) 66 (26 + 9 * m + 3) (b % 10)) 66 (26 + 9 * m + 4) (g 66 (8 + x) + g 66 (14 + y))) 66 0)) 66 (26 + 9 * m + 6) c) 66 (26 + 9 * m + 7) 1) 66 (26 + 9 * m + 8) 0) w) rfl ?_
                                    refine kx_is (k := 2) rfl rfl (by decide) rfl (by decide) (by decide) ?_
                                    refine kx_st 1 (pc' := 211) (L' := [some (.ref 65), some (.int a), some (.int b), some (.int c), some (.int (g91 66 2))]) (st' := [.int (g91 66 2)]) (h' := kv_wd (kv_up (kv_up (kv_up (kv_up (kv_up (kv_up (kv_up (kv_up (kv_up (kv_up g91 66 (26 + 9 * m + 0) (a / 10)) 66 (26 + 9 * m + 1) (a % 10)) 66 (26 + 9 * m + 2) (b / 10)) 66 (26 + 9 * m + 3) (b % 10)) 66 (26 + 9 * m + 4) (g 66 (8 + x) + g 66 (14 + y))) 66 (26 + 9 * m + 5) ((kv_up (kv_up (kv_up (kv_up (kv_up g91 66 (26 + 9 * m + 0) (a / 10)) 66 (26 + 9 * m + 1) (a % 10)) 66 (26 + 9 * m + 2) (b / 10)) 66 (26 + 9 * m + 3) (b % 10)) 66 (26 + 9 * m + 4) (g 66 (8 + x) + g 66 (14 + y))) 66 0)) 66 (26 + 9 * m + 6) c) 66 (26 + 9 * m + 7) 1) 66 (26 + 9 * m + 8) 0) 66 2 (((kv_up (kv_up (kv_up (kv_up (kv_up (kv_up (kv_up (kv_up (kv_up g91 66 (26 + 9 * m + 0) (a / 10)) 66 (26 + 9 * m + 1) (a % 10)) 66 (26 + 9 * m + 2) (b / 10)) 66 (26 + 9 * m + 3) (b % 10)) 66 (26 + 9 * m + 4) (g 66 (8 + x) + g 66 (14 + y))) 66 (26 + 9 * m + 5) ((kv_up (kv_up (kv_up (kv_up (kv_up g91 66 (26 + 9 * m + 0) (a / 10)) 66 (26 + 9 * m + 1) (a % 10)) 66 (26 + 9 * m + 2) (b / 10)) 66 (26 + 9 * m + 3) (b % 10)) 66 (26 + 9 * m + 4) (g 66 (8 + x) + g 66 (14 + y))) 66 0)) 66 (26 + 9 * m + 6) c) 66 (26 + 9 * m + 7) 1) 66 (26 + 9 * m + 8) 0) 66 2) + 1)) w) rfl ?_
                                    refine kx_ret (v := some (.int (g91 66 2))) rfl ?_
                                    have hc : g 3 x + g 4 y = g 66 (8 + x) + g 66 (14 + y) := by rw [(hq0.1 x (by omega)).1, (hq0.1 y (by omega)).2, show g 66 (8 + x) = _ from (hm0.1 x (by omega)).1, show g 66 (14 + y) = _ from (hm0.1 y (by omega)).2]
                                    have hyr : g 2 2 = g 66 0 := by rw [hq0.2, show g 66 0 = _ from hm0.2]
                                    rw [hc, hyr] at r3
                                    refine ⟨by rw [g2m], _, _, rfl, kx_Rl_bind hR b1 a2 d2 m7 (kx_bv a b c (g 66 (8 + x) + g 66 (14 + y)) (g 66 0)) ?_ (by rw [kv_up_ne (by omega), kv_up_ne (by omega), kv_up_ne (by omega), kv_up_ne (by omega), kv_up_ne (by omega), kv_up_ne (by omega), kv_up_ne (by omega), kv_up_ne (by omega), kv_up_ne (by omega), kv_up_ne (by omega)]; exact r1) (fun k hk => by rw [kv_up_ne (by omega), kv_up_ne (by omega), kv_up_ne (by omega), kv_up_ne (by omega), kv_up_ne (by omega), kv_up_ne (by omega), kv_up_ne (by omega), kv_up_ne (by omega), kv_up_ne (by omega), kv_up_ne (by omega)]; exact r2 k hk) (fun c hc => by rw [kv_up_ne (by omega), kv_up_ne (by omega), kv_up_ne (by omega), kv_up_ne (by omega), kv_up_ne (by omega), kv_up_ne (by omega), kv_up_ne (by omega), kv_up_ne (by omega), kv_up_ne (by omega), kv_up_ne (by omega)]; exact r3 c hc) ?_ ?_ ?_ ?_⟩
                                    · obtain ⟨z0, z1, rfl⟩ := kx_nIof (n := 69) ha.1 ha.2 (by omega)
                                      obtain ⟨z2, z3⟩ := kx_d10 z0 (by omega)
                                      obtain ⟨xa, xb, xc⟩ := (hb0 x (by omega)).1
                                      obtain ⟨ya, yb, yc⟩ := (hb0 y (by omega)).2
                                      refine ⟨fun _ _ => rfl, ⟨z0 / 10, by omega, z2⟩, ⟨z0 % 10, by omega, z3⟩, ⟨x, y, hx, hy, hxy, e10, e11⟩, ⟨xa + ya, by omega, ?_⟩, ⟨q0.2.2, hy0, hm0.2⟩, kx_un2 a4 hu, Or.inr rfl, ⟨0, by omega, rfl⟩⟩
                                      show g 66 (8 + x) + g 66 (14 + y) = _
                                      rw [show g 66 (8 + x) = _ from (hm0.1 x (by omega)).1, show g 66 (14 + y) = _ from (hm0.1 y (by omega)).2, xc, yc, kx_nadd]
                                    · intro c hc
                                      rw [kv_up_at, kx_upn (by omega)]
                                      match c, hc with
                                      | 0, _ => rw [kv_up_at, kx_upn (by omega), kv_up_at, kx_upn (by omega), kv_up_at, kx_upn (by omega), kv_up_at, kx_upn (by omega), kv_up_at, kx_upn (by omega), kv_up_at, kx_upn (by omega), kv_up_at, kx_upn (by omega), kv_up_at, kx_upn (by omega), kv_up_at, kx_ups]; rfl
                                      | 1, _ => rw [kv_up_at, kx_upn (by omega), kv_up_at, kx_upn (by omega), kv_up_at, kx_upn (by omega), kv_up_at, kx_upn (by omega), kv_up_at, kx_upn (by omega), kv_up_at, kx_upn (by omega), kv_up_at, kx_upn (by omega), kv_up_at, kx_ups]; rfl
                                      | 2, _ => rw [kv_up_at, kx_upn (by omega), kv_up_at, kx_upn (by omega), kv_up_at, kx_upn (by omega), kv_up_at, kx_upn (by omega), kv_up_at, kx_upn (by omega), kv_up_at, kx_upn (by omega), kv_up_at, kx_ups]; rfl
                                      | 3, _ => rw [kv_up_at, kx_upn (by omega), kv_up_at, kx_upn (by omega), kv_up_at, kx_upn (by omega), kv_up_at, kx_upn (by omega), kv_up_at, kx_upn (by omega), kv_up_at, kx_ups]; rfl
                                      | 4, _ => rw [kv_up_at, kx_upn (by omega), kv_up_at, kx_upn (by omega), kv_up_at, kx_upn (by omega), kv_up_at, kx_upn (by omega), kv_up_at, kx_ups]; rfl
                                      | 5, _ => rw [kv_up_at, kx_upn (by omega), kv_up_at, kx_upn (by omega), kv_up_at, kx_upn (by omega), kv_up_at, kx_ups, kv_up_at, kx_upn (by omega), kv_up_at, kx_upn (by omega), kv_up_at, kx_upn (by omega), kv_up_at, kx_upn (by omega), kv_up_at, kx_upn (by omega), (r4 66 (by omega) (by omega))]; rfl
                                      | 6, _ => rw [kv_up_at, kx_upn (by omega), kv_up_at, kx_upn (by omega), kv_up_at, kx_ups]; rfl
                                      | 7, _ => rw [kv_up_at, kx_upn (by omega), kv_up_at, kx_ups]; rfl
                                      | 8, _ => rw [kv_up_at, kx_ups]; rfl
                                      | c + 9, h => omega
                                    · rw [kv_up_at, kx_ups, kv_up_at, kx_upn (by omega), kv_up_at, kx_upn (by omega), kv_up_at, kx_upn (by omega), kv_up_at, kx_upn (by omega), kv_up_at, kx_upn (by omega), kv_up_at, kx_upn (by omega), kv_up_at, kx_upn (by omega), kv_up_at, kx_upn (by omega), kv_up_at, kx_upn (by omega), (r4 66 (by omega) (by omega)), d2, nI_succ]
                                    · intro j j2 hj
                                      rw [kv_up_at, kx_upn j2, kv_up_at, kx_upn (by omega), kv_up_at, kx_upn (by omega), kv_up_at, kx_upn (by omega), kv_up_at, kx_upn (by omega), kv_up_at, kx_upn (by omega), kv_up_at, kx_upn (by omega), kv_up_at, kx_upn (by omega), kv_up_at, kx_upn (by omega), kv_up_at, kx_upn (by omega), (r4 66 (by omega) (by omega))]
                                    · intro b b1 b14 b66
                                      rw [kv_up_ne b66, kv_up_ne b66, kv_up_ne b66, kv_up_ne b66, kv_up_ne b66, kv_up_ne b66, kv_up_ne b66, kv_up_ne b66, kv_up_ne b66, kv_up_ne b66]
                                      exact r4 b b1 b14
                                  · exact absurd ht.2 z78
                              · exact absurd (by rw [g2m] at z49; exact Classical.not_not.mp z49) (kx_ne_nI (a := m) (b := 8) (by omega) (by omega) (by omega))
                            · exact absurd (by rw [g2m]; exact (kx_un a4).mpr hu) z31
                      · exact absurd ht h75
                    · exact absurd (by rw [d1]; exact nI_lt (a := m) (b := 8) m7 (by omega)) h51
                  · exact absurd (by rw [d1]; exact hu.2) h33
          · refine kx_two (by decide) (Nat.le_of_ble_eq_true rfl) (by decide) (Nat.le_of_ble_eq_true rfl) ?_
            refine kx_st 0 (pc' := 0) (L' := [some (.ref 0), some (.int a), some (.int b), some (.int c)]) (st' := []) (h' := kv_wd g w) rfl ?_
            refine kx_st 2 (pc' := 3) (L' := [some (.ref 0), some (.int a), some (.int b), some (.int c)]) (st' := [.int 69, .int a]) (h' := kv_wd g w) rfl ?_
            refine kx_call (z := 124) (as := [.int a, .int 69]) (rest := []) (v := some (.int (kx_b (0 ≤ a ∧ a ≤ 69)))) (h1 := kv_wd g w) rfl (ev_within (d := 898) a 69) ?_
            refine kx_st 0 (pc' := 6) (L' := [some (.ref 0), some (.int a), some (.int b), some (.int c)]) (st' := [.int (kx_b (0 ≤ a ∧ a ≤ 69))]) (h' := kv_wd g w) rfl ?_
            refine kx_be (t := 36) rfl rfl (fun (h6 : ¬ (0 ≤ a ∧ a ≤ 69)) => ?_) (fun (h6 : (0 ≤ a ∧ a ≤ 69)) => ?_)
            · exact absurd ha h6
            · refine kx_st 0 (pc' := 9) (L' := [some (.ref 0), some (.int a), some (.int b), some (.int c)]) (st' := []) (h' := kv_wd g w) rfl ?_
              refine kx_st 3 (pc' := 14) (L' := [some (.ref 0), some (.int a), some (.int b), some (.int c)]) (st' := [.int b, .ref 1]) (h' := kv_wd g w) rfl ?_
              refine kx_call (z := 12) (as := [.ref 1, .int b]) (rest := []) (v := some (.int (kx_b (kx_pr s b)))) (h1 := kv_wd g w) rfl (ev_isPairS (d := 897) (g := g) (s := s) b1 a2 b) ?_
              refine kx_st 0 (pc' := 17) (L' := [some (.ref 0), some (.int a), some (.int b), some (.int c)]) (st' := [.int (kx_b (kx_pr s b))]) (h' := kv_wd g w) rfl ?_
              refine kx_be (t := 36) rfl rfl (fun (h17 : ¬ (kx_pr s b)) => ?_) (fun (h17 : (kx_pr s b)) => ?_)
              · exact absurd hp h17
              · refine kx_st 0 (pc' := 20) (L' := [some (.ref 0), some (.int a), some (.int b), some (.int c)]) (st' := []) (h' := kv_wd g w) rfl ?_
                refine kx_st 2 (pc' := 22) (L' := [some (.ref 0), some (.int a), some (.int b), some (.int c)]) (st' := [.int (-1), .int c]) (h' := kv_wd g w) rfl ?_
                refine kx_bi (t := 36) rfl rfl (fun (h22 : c < (-1)) => ?_) (fun (h22 : ¬ (c < (-1))) => ?_)
                · exact absurd h22 hu.1
                · refine kx_st 0 (pc' := 25) (L' := [some (.ref 0), some (.int a), some (.int b), some (.int c)]) (st' := []) (h' := kv_wd g w) rfl ?_
                  refine kx_st 4 (pc' := 33) (L' := [some (.ref 0), some (.int a), some (.int b), some (.int c)]) (st' := [.int (g 1 4), .int c]) (h' := kv_wd g w) rfl ?_
                  refine kx_bi (t := 42) rfl rfl (fun (h33 : c < g 1 4) => ?_) (fun (h33 : ¬ (c < g 1 4)) => ?_)
                  · refine kx_st 4 (pc' := 51) (L' := [some (.ref 0), some (.int a), some (.int b), some (.int c)]) (st' := [.int 8, .int (g 1 4)]) (h' := kv_wd g w) rfl ?_
                    refine kx_bi (t := 60) rfl rfl (fun (h51 : g 1 4 < 8) => ?_) (fun (h51 : ¬ (g 1 4 < 8)) => ?_)
                    · refine kx_st 4 (pc' := 67) (L' := [some (.ref 0), some (.int a), some (.int b), some (.int c)]) (st' := [.int 10, .int b, .ref 1]) (h' := kv_wd g w) rfl ?_
                      refine kx_dv rfl (by decide) ?_
                      refine kx_st 2 (pc' := 71) (L' := [some (.ref 0), some (.int a), some (.int b), some (.int c)]) (st' := [.int 10, .int b, .int (b / 10), .ref 1]) (h' := kv_wd g w) rfl ?_
                      refine kx_rm rfl (by decide) ?_
                      refine kx_call (z := 14) (as := [.ref 1, .int (b / 10), .int (b % 10)]) (rest := []) (v := some (.int (kx_b (t.testBit x = true ∧ t.testBit y = true)))) (h1 := kv_wd g w) rfl (by rw [e10, e11]; exact ev_areThereT (d := 896) (g := g) hX x y hx hy) ?_
                      refine kx_st 0 (pc' := 75) (L' := [some (.ref 0), some (.int a), some (.int b), some (.int c)]) (st' := [.int (kx_b (t.testBit x = true ∧ t.testBit y = true))]) (h' := kv_wd g w) rfl ?_
                      refine kx_bn (t := 84) rfl rfl (fun (h75 : (t.testBit x = true ∧ t.testBit y = true)) => ?_) (fun (h75 : ¬ (t.testBit x = true ∧ t.testBit y = true)) => ?_)
                      · exact absurd h75 ht
                      · refine kx_st 0 (pc' := 78) (L' := [some (.ref 0), some (.int a), some (.int b), some (.int c)]) (st' := []) (h' := kv_wd g w) rfl ?_
                        refine kx_st 2 (pc' := 80) (L' := [some (.ref 0), some (.int a), some (.int b), some (.int c)]) (st' := [.int 3, .ref 0]) (h' := kv_wd g w) rfl ?_
                        refine kx_call (z := 123) (as := [.ref 0, .int 3]) (rest := []) (v := some (.int (-1000000000 - nI 3))) (h1 := kv_wd (kv_up g 64 3 (g 64 3 + 1)) w) rfl (ev_error (d := 898) 3 (by decide) (by decide)) ?_
                        refine kx_st 0 (pc' := 83) (L' := [some (.ref 0), some (.int a), some (.int b), some (.int c)]) (st' := [.int (-1000000000 - nI 3)]) (h' := kv_wd (kv_up g 64 3 (g 64 3 + 1)) w) rfl ?_
                        refine kx_ret (v := some (.int (-1000000000 - nI 3))) rfl ?_
                        refine ⟨_, _, _, rfl, rfl, ?_⟩
                        refine kx_st 0 (pc' := 0) (L' := [some (.ref 65), some (.int a), some (.int b), some (.int c), none]) (st' := []) (h' := kv_wd (kv_up g 64 3 (g 64 3 + 1)) w) rfl ?_
                        refine kx_st 3 (pc' := 4) (L' := [some (.ref 65), some (.int a), some (.int b), some (.int c), none]) (st' := [.int 69, .int 0, .int a]) (h' := kv_wd (kv_up g 64 3 (g 64 3 + 1)) w) rfl ?_
                        refine kx_call (z := 130) (as := [.int a, .int 0, .int 69]) (rest := []) (v := some (.int (kx_b (0 ≤ a ∧ a ≤ 69)))) (h1 := kv_wd (kv_up g 64 3 (g 64 3 + 1)) w) rfl (ev_in (d := 898) a 0 69) ?_
                        refine kx_st 0 (pc' := 7) (L' := [some (.ref 65), some (.int a), some (.int b), some (.int c), none]) (st' := [.int (kx_b (0 ≤ a ∧ a ≤ 69))]) (h' := kv_wd (kv_up g 64 3 (g 64 3 + 1)) w) rfl ?_
                        refine kx_be (t := 34) rfl rfl (fun (z7 : ¬ (0 ≤ a ∧ a ≤ 69)) => ?_) (fun (z7 : (0 ≤ a ∧ a ≤ 69)) => ?_)
                        · exact absurd ha z7
                        · refine kx_st 0 (pc' := 10) (L' := [some (.ref 65), some (.int a), some (.int b), some (.int c), none]) (st' := []) (h' := kv_wd (kv_up g 64 3 (g 64 3 + 1)) w) rfl ?_
                          refine kx_st 2 (pc' := 12) (L' := [some (.ref 65), some (.int a), some (.int b), some (.int c), none]) (st' := [.int b, .ref 65]) (h' := kv_wd (kv_up g 64 3 (g 64 3 + 1)) w) rfl ?_
                          refine kx_call (z := 140) (as := [.ref 65, .int b]) (rest := []) (v := some (.int (kx_b (kx_pr s b)))) (h1 := kv_wd (kv_up g 64 3 (g 64 3 + 1)) w) rfl (ev_mPairS (d := 896) (g := kv_up g 64 3 (g 64 3 + 1)) (s := s) b2 a2 b) ?_
                          refine kx_st 0 (pc' := 15) (L' := [some (.ref 65), some (.int a), some (.int b), some (.int c), none]) (st' := [.int (kx_b (kx_pr s b))]) (h' := kv_wd (kv_up g 64 3 (g 64 3 + 1)) w) rfl ?_
                          refine kx_be (t := 34) rfl rfl (fun (z15 : ¬ (kx_pr s b)) => ?_) (fun (z15 : (kx_pr s b)) => ?_)
                          · exact absurd hp z15
                          · refine kx_st 0 (pc' := 18) (L' := [some (.ref 65), some (.int a), some (.int b), some (.int c), none]) (st' := []) (h' := kv_wd (kv_up g 64 3 (g 64 3 + 1)) w) rfl ?_
                            refine kx_st 5 (pc' := 25) (L' := [some (.ref 65), some (.int a), some (.int b), some (.int c), none]) (st' := [.int 2, .ref 66, .int (-1), .int c]) (h' := kv_wd (kv_up g 64 3 (g 64 3 + 1)) w) rfl ?_
                            refine kx_ia (k := 2) rfl rfl (by decide) rfl (by decide) (by decide) ?_
                            refine kx_st 2 (pc' := 28) (L' := [some (.ref 65), some (.int a), some (.int b), some (.int c), none]) (st' := [.int (((kv_up g 64 3 (g 64 3 + 1)) 66 2) - 1), .int (-1), .int c]) (h' := kv_wd (kv_up g 64 3 (g 64 3 + 1)) w) rfl ?_
                            refine kx_call (z := 130) (as := [.int c, .int (-1), .int (((kv_up g 64 3 (g 64 3 + 1)) 66 2) - 1)]) (rest := []) (v := some (.int (kx_b ((-1) ≤ c ∧ c ≤ ((kv_up g 64 3 (g 64 3 + 1)) 66 2) - 1)))) (h1 := kv_wd (kv_up g 64 3 (g 64 3 + 1)) w) rfl (ev_in (d := 898) c (-1) (((kv_up g 64 3 (g 64 3 + 1)) 66 2) - 1)) ?_
                            refine kx_st 0 (pc' := 31) (L' := [some (.ref 65), some (.int a), some (.int b), some (.int c), none]) (st' := [.int (kx_b ((-1) ≤ c ∧ c ≤ ((kv_up g 64 3 (g 64 3 + 1)) 66 2) - 1))]) (h' := kv_wd (kv_up g 64 3 (g 64 3 + 1)) w) rfl ?_
                            refine kx_bn (t := 41) rfl rfl (fun (z31 : ((-1) ≤ c ∧ c ≤ ((kv_up g 64 3 (g 64 3 + 1)) 66 2) - 1)) => ?_) (fun (z31 : ¬ ((-1) ≤ c ∧ c ≤ ((kv_up g 64 3 (g 64 3 + 1)) 66 2) - 1)) => ?_)
                            · refine kx_st 3 (pc' := 46) (L' := [some (.ref 65), some (.int a), some (.int b), some (.int c), none]) (st' := [.int 2, .ref 66]) (h' := kv_wd (kv_up g 64 3 (g 64 3 + 1)) w) rfl ?_
                              refine kx_ia (k := 2) rfl rfl (by decide) rfl (by decide) (by decide) ?_
                              refine kx_st 1 (pc' := 49) (L' := [some (.ref 65), some (.int a), some (.int b), some (.int c), none]) (st' := [.int 8, .int ((kv_up g 64 3 (g 64 3 + 1)) 66 2)]) (h' := kv_wd (kv_up g 64 3 (g 64 3 + 1)) w) rfl ?_
                              refine kx_bi (t := 59) rfl rfl (fun (z49 : ¬ (kv_up g 64 3 (g 64 3 + 1)) 66 2 = 8) => ?_) (fun (z49 : ¬ (¬ (kv_up g 64 3 (g 64 3 + 1)) 66 2 = 8)) => ?_)
                              · refine kx_st 3 (pc' := 63) (L' := [some (.ref 65), some (.int a), some (.int b), some (.int c), none]) (st' := [.int 10, .int b, .ref 65]) (h' := kv_wd (kv_up g 64 3 (g 64 3 + 1)) w) rfl ?_
                                refine kx_dv rfl (by decide) ?_
                                refine kx_call (z := 141) (as := [.ref 65, .int (b / 10)]) (rest := []) (v := some (.int (kx_b (t.testBit x = true)))) (h1 := kv_wd (kv_up g 64 3 (g 64 3 + 1)) w) rfl (by rw [e10]; exact ev_mThereT (d := 898) (g := kv_up g 64 3 (g 64 3 + 1)) hM x hx) ?_
                                refine kx_st 0 (pc' := 67) (L' := [some (.ref 65), some (.int a), some (.int b), some (.int c), none]) (st' := [.int (kx_b (t.testBit x = true))]) (h' := kv_wd (kv_up g 64 3 (g 64 3 + 1)) w) rfl ?_
                                refine kx_be (t := 81) rfl rfl (fun (z67 : ¬ (t.testBit x = true)) => ?_) (fun (z67 : (t.testBit x = true)) => ?_)
                                · refine kx_st 2 (pc' := 84) (L' := [some (.ref 65), some (.int a), some (.int b), some (.int c), none]) (st' := [.int (-1000000003), .ref 65]) (h' := kv_wd (kv_up g 64 3 (g 64 3 + 1)) w) rfl ?_
                                  refine kx_call (z := 131) (as := [.ref 65, .int (-1000000003)]) (rest := []) (v := some (.int (-1000000003))) (h1 := kv_wd (kv_up (kv_up g 64 3 (g 64 3 + 1)) 70 3 ((kv_up g 64 3 (g 64 3 + 1)) 70 3 + 1)) w) rfl (ev_errs (d := 898) (-1000000003) 3 (by decide) (by decide)) ?_
                                  refine kx_st 0 (pc' := 87) (L' := [some (.ref 65), some (.int a), some (.int b), some (.int c), none]) (st' := [.int (-1000000003)]) (h' := kv_wd (kv_up (kv_up g 64 3 (g 64 3 + 1)) 70 3 ((kv_up g 64 3 (g 64 3 + 1)) 70 3 + 1)) w) rfl ?_
                                  refine kx_ret (v := some (.int (-1000000003))) rfl ?_
                                  exact ⟨rfl, _, _, rfl, kx_Rl_e hR⟩
                                · refine kx_st 0 (pc' := 70) (L' := [some (.ref 65), some (.int a), some (.int b), some (.int c), none]) (st' := []) (h' := kv_wd (kv_up g 64 3 (g 64 3 + 1)) w) rfl ?_
                                  refine kx_st 3 (pc' := 74) (L' := [some (.ref 65), some (.int a), some (.int b), some (.int c), none]) (st' := [.int 10, .int b, .ref 65]) (h' := kv_wd (kv_up g 64 3 (g 64 3 + 1)) w) rfl ?_
                                  refine kx_rm rfl (by decide) ?_
                                  refine kx_call (z := 141) (as := [.ref 65, .int (b % 10)]) (rest := []) (v := some (.int (kx_b (t.testBit y = true)))) (h1 := kv_wd (kv_up g 64 3 (g 64 3 + 1)) w) rfl (by rw [e11]; exact ev_mThereT (d := 898) (g := kv_up g 64 3 (g 64 3 + 1)) hM y hy) ?_
                                  refine kx_st 0 (pc' := 78) (L' := [some (.ref 65), some (.int a), some (.int b), some (.int c), none]) (st' := [.int (kx_b (t.testBit y = true))]) (h' := kv_wd (kv_up g 64 3 (g 64 3 + 1)) w) rfl ?_
                                  refine kx_bn (t := 88) rfl rfl (fun (z78 : (t.testBit y = true)) => ?_) (fun (z78 : ¬ (t.testBit y = true)) => ?_)
                                  · exact absurd ⟨z67, z78⟩ ht
                                  · refine kx_st 0 (pc' := 81) (L' := [some (.ref 65), some (.int a), some (.int b), some (.int c), none]) (st' := []) (h' := kv_wd (kv_up g 64 3 (g 64 3 + 1)) w) rfl ?_
                                    refine kx_st 2 (pc' := 84) (L' := [some (.ref 65), some (.int a), some (.int b), some (.int c), none]) (st' := [.int (-1000000003), .ref 65]) (h' := kv_wd (kv_up g 64 3 (g 64 3 + 1)) w) rfl ?_
                                    refine kx_call (z := 131) (as := [.ref 65, .int (-1000000003)]) (rest := []) (v := some (.int (-1000000003))) (h1 := kv_wd (kv_up (kv_up g 64 3 (g 64 3 + 1)) 70 3 ((kv_up g 64 3 (g 64 3 + 1)) 70 3 + 1)) w) rfl (ev_errs (d := 898) (-1000000003) 3 (by decide) (by decide)) ?_
                                    refine kx_st 0 (pc' := 87) (L' := [some (.ref 65), some (.int a), some (.int b), some (.int c), none]) (st' := [.int (-1000000003)]) (h' := kv_wd (kv_up (kv_up g 64 3 (g 64 3 + 1)) 70 3 ((kv_up g 64 3 (g 64 3 + 1)) 70 3 + 1)) w) rfl ?_
                                    refine kx_ret (v := some (.int (-1000000003))) rfl ?_
                                    exact ⟨rfl, _, _, rfl, kx_Rl_e hR⟩
                              · exact absurd (show g 66 2 = 8 from Classical.not_not.mp z49) (by rw [d2]; exact kx_ne_nI (a := m) (b := 8) (by omega) (by omega) (by omega))
                            · exact absurd (show -1 ≤ c ∧ c ≤ g 66 2 - 1 by rw [d2]; exact (kx_un a4).mpr hu) z31
                    · exact absurd (by rw [d1]; exact nI_lt (a := m) (b := 8) m7 (by omega)) h51
                  · exact absurd (by rw [d1]; exact hu.2) h33
      · refine kx_two (by decide) (Nat.le_of_ble_eq_true rfl) (by decide) (Nat.le_of_ble_eq_true rfl) ?_
        refine kx_st 0 (pc' := 0) (L' := [some (.ref 0), some (.int a), some (.int b), some (.int c)]) (st' := []) (h' := kv_wd g w) rfl ?_
        refine kx_st 2 (pc' := 3) (L' := [some (.ref 0), some (.int a), some (.int b), some (.int c)]) (st' := [.int 69, .int a]) (h' := kv_wd g w) rfl ?_
        refine kx_call (z := 124) (as := [.int a, .int 69]) (rest := []) (v := some (.int (kx_b (0 ≤ a ∧ a ≤ 69)))) (h1 := kv_wd g w) rfl (ev_within (d := 898) a 69) ?_
        refine kx_st 0 (pc' := 6) (L' := [some (.ref 0), some (.int a), some (.int b), some (.int c)]) (st' := [.int (kx_b (0 ≤ a ∧ a ≤ 69))]) (h' := kv_wd g w) rfl ?_
        refine kx_be (t := 36) rfl rfl (fun (h6 : ¬ (0 ≤ a ∧ a ≤ 69)) => ?_) (fun (h6 : (0 ≤ a ∧ a ≤ 69)) => ?_)
        · exact absurd ha h6
        · refine kx_st 0 (pc' := 9) (L' := [some (.ref 0), some (.int a), some (.int b), some (.int c)]) (st' := []) (h' := kv_wd g w) rfl ?_
          refine kx_st 3 (pc' := 14) (L' := [some (.ref 0), some (.int a), some (.int b), some (.int c)]) (st' := [.int b, .ref 1]) (h' := kv_wd g w) rfl ?_
          refine kx_call (z := 12) (as := [.ref 1, .int b]) (rest := []) (v := some (.int (kx_b (kx_pr s b)))) (h1 := kv_wd g w) rfl (ev_isPairS (d := 897) (g := g) (s := s) b1 a2 b) ?_
          refine kx_st 0 (pc' := 17) (L' := [some (.ref 0), some (.int a), some (.int b), some (.int c)]) (st' := [.int (kx_b (kx_pr s b))]) (h' := kv_wd g w) rfl ?_
          refine kx_be (t := 36) rfl rfl (fun (h17 : ¬ (kx_pr s b)) => ?_) (fun (h17 : (kx_pr s b)) => ?_)
          · exact absurd hp h17
          · refine kx_st 0 (pc' := 20) (L' := [some (.ref 0), some (.int a), some (.int b), some (.int c)]) (st' := []) (h' := kv_wd g w) rfl ?_
            refine kx_st 2 (pc' := 22) (L' := [some (.ref 0), some (.int a), some (.int b), some (.int c)]) (st' := [.int (-1), .int c]) (h' := kv_wd g w) rfl ?_
            refine kx_bi (t := 36) rfl rfl (fun (h22 : c < (-1)) => ?_) (fun (h22 : ¬ (c < (-1))) => ?_)
            · refine kx_st 2 (pc' := 38) (L' := [some (.ref 0), some (.int a), some (.int b), some (.int c)]) (st' := [.int 1, .ref 0]) (h' := kv_wd g w) rfl ?_
              refine kx_call (z := 123) (as := [.ref 0, .int 1]) (rest := []) (v := some (.int (-1000000000 - nI 1))) (h1 := kv_wd (kv_up g 64 1 (g 64 1 + 1)) w) rfl (ev_error (d := 898) 1 (by decide) (by decide)) ?_
              refine kx_st 0 (pc' := 41) (L' := [some (.ref 0), some (.int a), some (.int b), some (.int c)]) (st' := [.int (-1000000000 - nI 1)]) (h' := kv_wd (kv_up g 64 1 (g 64 1 + 1)) w) rfl ?_
              refine kx_ret (v := some (.int (-1000000000 - nI 1))) rfl ?_
              refine ⟨_, _, _, rfl, rfl, ?_⟩
              refine kx_st 0 (pc' := 0) (L' := [some (.ref 65), some (.int a), some (.int b), some (.int c), none]) (st' := []) (h' := kv_wd (kv_up g 64 1 (g 64 1 + 1)) w) rfl ?_
              refine kx_st 3 (pc' := 4) (L' := [some (.ref 65), some (.int a), some (.int b), some (.int c), none]) (st' := [.int 69, .int 0, .int a]) (h' := kv_wd (kv_up g 64 1 (g 64 1 + 1)) w) rfl ?_
              refine kx_call (z := 130) (as := [.int a, .int 0, .int 69]) (rest := []) (v := some (.int (kx_b (0 ≤ a ∧ a ≤ 69)))) (h1 := kv_wd (kv_up g 64 1 (g 64 1 + 1)) w) rfl (ev_in (d := 898) a 0 69) ?_
              refine kx_st 0 (pc' := 7) (L' := [some (.ref 65), some (.int a), some (.int b), some (.int c), none]) (st' := [.int (kx_b (0 ≤ a ∧ a ≤ 69))]) (h' := kv_wd (kv_up g 64 1 (g 64 1 + 1)) w) rfl ?_
              refine kx_be (t := 34) rfl rfl (fun (m7 : ¬ (0 ≤ a ∧ a ≤ 69)) => ?_) (fun (m7 : (0 ≤ a ∧ a ≤ 69)) => ?_)
              · exact absurd ha m7
              · refine kx_st 0 (pc' := 10) (L' := [some (.ref 65), some (.int a), some (.int b), some (.int c), none]) (st' := []) (h' := kv_wd (kv_up g 64 1 (g 64 1 + 1)) w) rfl ?_
                refine kx_st 2 (pc' := 12) (L' := [some (.ref 65), some (.int a), some (.int b), some (.int c), none]) (st' := [.int b, .ref 65]) (h' := kv_wd (kv_up g 64 1 (g 64 1 + 1)) w) rfl ?_
                refine kx_call (z := 140) (as := [.ref 65, .int b]) (rest := []) (v := some (.int (kx_b (kx_pr s b)))) (h1 := kv_wd (kv_up g 64 1 (g 64 1 + 1)) w) rfl (ev_mPairS (d := 896) (g := kv_up g 64 1 (g 64 1 + 1)) (s := s) b2 a2 b) ?_
                refine kx_st 0 (pc' := 15) (L' := [some (.ref 65), some (.int a), some (.int b), some (.int c), none]) (st' := [.int (kx_b (kx_pr s b))]) (h' := kv_wd (kv_up g 64 1 (g 64 1 + 1)) w) rfl ?_
                refine kx_be (t := 34) rfl rfl (fun (m15 : ¬ (kx_pr s b)) => ?_) (fun (m15 : (kx_pr s b)) => ?_)
                · exact absurd hp m15
                · refine kx_st 0 (pc' := 18) (L' := [some (.ref 65), some (.int a), some (.int b), some (.int c), none]) (st' := []) (h' := kv_wd (kv_up g 64 1 (g 64 1 + 1)) w) rfl ?_
                  refine kx_st 5 (pc' := 25) (L' := [some (.ref 65), some (.int a), some (.int b), some (.int c), none]) (st' := [.int 2, .ref 66, .int (-1), .int c]) (h' := kv_wd (kv_up g 64 1 (g 64 1 + 1)) w) rfl ?_
                  refine kx_ia (k := 2) rfl rfl (by decide) rfl (by decide) (by decide) ?_
                  refine kx_st 2 (pc' := 28) (L' := [some (.ref 65), some (.int a), some (.int b), some (.int c), none]) (st' := [.int (((kv_up g 64 1 (g 64 1 + 1)) 66 2) - 1), .int (-1), .int c]) (h' := kv_wd (kv_up g 64 1 (g 64 1 + 1)) w) rfl ?_
                  refine kx_call (z := 130) (as := [.int c, .int (-1), .int (((kv_up g 64 1 (g 64 1 + 1)) 66 2) - 1)]) (rest := []) (v := some (.int (kx_b ((-1) ≤ c ∧ c ≤ ((kv_up g 64 1 (g 64 1 + 1)) 66 2) - 1)))) (h1 := kv_wd (kv_up g 64 1 (g 64 1 + 1)) w) rfl (ev_in (d := 898) c (-1) (((kv_up g 64 1 (g 64 1 + 1)) 66 2) - 1)) ?_
                  refine kx_st 0 (pc' := 31) (L' := [some (.ref 65), some (.int a), some (.int b), some (.int c), none]) (st' := [.int (kx_b ((-1) ≤ c ∧ c ≤ ((kv_up g 64 1 (g 64 1 + 1)) 66 2) - 1))]) (h' := kv_wd (kv_up g 64 1 (g 64 1 + 1)) w) rfl ?_
                  refine kx_bn (t := 41) rfl rfl (fun (m31 : ((-1) ≤ c ∧ c ≤ ((kv_up g 64 1 (g 64 1 + 1)) 66 2) - 1)) => ?_) (fun (m31 : ¬ ((-1) ≤ c ∧ c ≤ ((kv_up g 64 1 (g 64 1 + 1)) 66 2) - 1)) => ?_)
                  · exact absurd ((kx_un a4).mp (show -1 ≤ c ∧ c ≤ nI m - 1 by have z_ : -1 ≤ c ∧ c ≤ g 66 2 - 1 := m31; rw [d2] at z_; exact z_)) hu
                  · refine kx_st 0 (pc' := 34) (L' := [some (.ref 65), some (.int a), some (.int b), some (.int c), none]) (st' := []) (h' := kv_wd (kv_up g 64 1 (g 64 1 + 1)) w) rfl ?_
                    refine kx_st 2 (pc' := 37) (L' := [some (.ref 65), some (.int a), some (.int b), some (.int c), none]) (st' := [.int (-1000000001), .ref 65]) (h' := kv_wd (kv_up g 64 1 (g 64 1 + 1)) w) rfl ?_
                    refine kx_call (z := 131) (as := [.ref 65, .int (-1000000001)]) (rest := []) (v := some (.int (-1000000001))) (h1 := kv_wd (kv_up (kv_up g 64 1 (g 64 1 + 1)) 70 1 ((kv_up g 64 1 (g 64 1 + 1)) 70 1 + 1)) w) rfl (ev_errs (d := 898) (-1000000001) 1 (by decide) (by decide)) ?_
                    refine kx_st 0 (pc' := 40) (L' := [some (.ref 65), some (.int a), some (.int b), some (.int c), none]) (st' := [.int (-1000000001)]) (h' := kv_wd (kv_up (kv_up g 64 1 (g 64 1 + 1)) 70 1 ((kv_up g 64 1 (g 64 1 + 1)) 70 1 + 1)) w) rfl ?_
                    refine kx_ret (v := some (.int (-1000000001))) rfl ?_
                    exact ⟨rfl, _, _, rfl, kx_Rl_e hR⟩
            · refine kx_st 0 (pc' := 25) (L' := [some (.ref 0), some (.int a), some (.int b), some (.int c)]) (st' := []) (h' := kv_wd g w) rfl ?_
              refine kx_st 4 (pc' := 33) (L' := [some (.ref 0), some (.int a), some (.int b), some (.int c)]) (st' := [.int (g 1 4), .int c]) (h' := kv_wd g w) rfl ?_
              refine kx_bi (t := 42) rfl rfl (fun (h33 : c < g 1 4) => ?_) (fun (h33 : ¬ (c < g 1 4)) => ?_)
              · exact absurd ⟨h22, by rw [← d1]; exact h33⟩ hu
              · refine kx_st 0 (pc' := 36) (L' := [some (.ref 0), some (.int a), some (.int b), some (.int c)]) (st' := []) (h' := kv_wd g w) rfl ?_
                refine kx_st 2 (pc' := 38) (L' := [some (.ref 0), some (.int a), some (.int b), some (.int c)]) (st' := [.int 1, .ref 0]) (h' := kv_wd g w) rfl ?_
                refine kx_call (z := 123) (as := [.ref 0, .int 1]) (rest := []) (v := some (.int (-1000000000 - nI 1))) (h1 := kv_wd (kv_up g 64 1 (g 64 1 + 1)) w) rfl (ev_error (d := 898) 1 (by decide) (by decide)) ?_
                refine kx_st 0 (pc' := 41) (L' := [some (.ref 0), some (.int a), some (.int b), some (.int c)]) (st' := [.int (-1000000000 - nI 1)]) (h' := kv_wd (kv_up g 64 1 (g 64 1 + 1)) w) rfl ?_
                refine kx_ret (v := some (.int (-1000000000 - nI 1))) rfl ?_
                refine ⟨_, _, _, rfl, rfl, ?_⟩
                refine kx_st 0 (pc' := 0) (L' := [some (.ref 65), some (.int a), some (.int b), some (.int c), none]) (st' := []) (h' := kv_wd (kv_up g 64 1 (g 64 1 + 1)) w) rfl ?_
                refine kx_st 3 (pc' := 4) (L' := [some (.ref 65), some (.int a), some (.int b), some (.int c), none]) (st' := [.int 69, .int 0, .int a]) (h' := kv_wd (kv_up g 64 1 (g 64 1 + 1)) w) rfl ?_
                refine kx_call (z := 130) (as := [.int a, .int 0, .int 69]) (rest := []) (v := some (.int (kx_b (0 ≤ a ∧ a ≤ 69)))) (h1 := kv_wd (kv_up g 64 1 (g 64 1 + 1)) w) rfl (ev_in (d := 898) a 0 69) ?_
                refine kx_st 0 (pc' := 7) (L' := [some (.ref 65), some (.int a), some (.int b), some (.int c), none]) (st' := [.int (kx_b (0 ≤ a ∧ a ≤ 69))]) (h' := kv_wd (kv_up g 64 1 (g 64 1 + 1)) w) rfl ?_
                refine kx_be (t := 34) rfl rfl (fun (m7 : ¬ (0 ≤ a ∧ a ≤ 69)) => ?_) (fun (m7 : (0 ≤ a ∧ a ≤ 69)) => ?_)
                · exact absurd ha m7
                · refine kx_st 0 (pc' := 10) (L' := [some (.ref 65), some (.int a), some (.int b), some (.int c), none]) (st' := []) (h' := kv_wd (kv_up g 64 1 (g 64 1 + 1)) w) rfl ?_
                  refine kx_st 2 (pc' := 12) (L' := [some (.ref 65), some (.int a), some (.int b), some (.int c), none]) (st' := [.int b, .ref 65]) (h' := kv_wd (kv_up g 64 1 (g 64 1 + 1)) w) rfl ?_
                  refine kx_call (z := 140) (as := [.ref 65, .int b]) (rest := []) (v := some (.int (kx_b (kx_pr s b)))) (h1 := kv_wd (kv_up g 64 1 (g 64 1 + 1)) w) rfl (ev_mPairS (d := 896) (g := kv_up g 64 1 (g 64 1 + 1)) (s := s) b2 a2 b) ?_
                  refine kx_st 0 (pc' := 15) (L' := [some (.ref 65), some (.int a), some (.int b), some (.int c), none]) (st' := [.int (kx_b (kx_pr s b))]) (h' := kv_wd (kv_up g 64 1 (g 64 1 + 1)) w) rfl ?_
                  refine kx_be (t := 34) rfl rfl (fun (m15 : ¬ (kx_pr s b)) => ?_) (fun (m15 : (kx_pr s b)) => ?_)
                  · exact absurd hp m15
                  · refine kx_st 0 (pc' := 18) (L' := [some (.ref 65), some (.int a), some (.int b), some (.int c), none]) (st' := []) (h' := kv_wd (kv_up g 64 1 (g 64 1 + 1)) w) rfl ?_
                    refine kx_st 5 (pc' := 25) (L' := [some (.ref 65), some (.int a), some (.int b), some (.int c), none]) (st' := [.int 2, .ref 66, .int (-1), .int c]) (h' := kv_wd (kv_up g 64 1 (g 64 1 + 1)) w) rfl ?_
                    refine kx_ia (k := 2) rfl rfl (by decide) rfl (by decide) (by decide) ?_
                    refine kx_st 2 (pc' := 28) (L' := [some (.ref 65), some (.int a), some (.int b), some (.int c), none]) (st' := [.int (((kv_up g 64 1 (g 64 1 + 1)) 66 2) - 1), .int (-1), .int c]) (h' := kv_wd (kv_up g 64 1 (g 64 1 + 1)) w) rfl ?_
                    refine kx_call (z := 130) (as := [.int c, .int (-1), .int (((kv_up g 64 1 (g 64 1 + 1)) 66 2) - 1)]) (rest := []) (v := some (.int (kx_b ((-1) ≤ c ∧ c ≤ ((kv_up g 64 1 (g 64 1 + 1)) 66 2) - 1)))) (h1 := kv_wd (kv_up g 64 1 (g 64 1 + 1)) w) rfl (ev_in (d := 898) c (-1) (((kv_up g 64 1 (g 64 1 + 1)) 66 2) - 1)) ?_
                    refine kx_st 0 (pc' := 31) (L' := [some (.ref 65), some (.int a), some (.int b), some (.int c), none]) (st' := [.int (kx_b ((-1) ≤ c ∧ c ≤ ((kv_up g 64 1 (g 64 1 + 1)) 66 2) - 1))]) (h' := kv_wd (kv_up g 64 1 (g 64 1 + 1)) w) rfl ?_
                    refine kx_bn (t := 41) rfl rfl (fun (m31 : ((-1) ≤ c ∧ c ≤ ((kv_up g 64 1 (g 64 1 + 1)) 66 2) - 1)) => ?_) (fun (m31 : ¬ ((-1) ≤ c ∧ c ≤ ((kv_up g 64 1 (g 64 1 + 1)) 66 2) - 1)) => ?_)
                    · exact absurd ((kx_un a4).mp (show -1 ≤ c ∧ c ≤ nI m - 1 by have z_ : -1 ≤ c ∧ c ≤ g 66 2 - 1 := m31; rw [d2] at z_; exact z_)) hu
                    · refine kx_st 0 (pc' := 34) (L' := [some (.ref 65), some (.int a), some (.int b), some (.int c), none]) (st' := []) (h' := kv_wd (kv_up g 64 1 (g 64 1 + 1)) w) rfl ?_
                      refine kx_st 2 (pc' := 37) (L' := [some (.ref 65), some (.int a), some (.int b), some (.int c), none]) (st' := [.int (-1000000001), .ref 65]) (h' := kv_wd (kv_up g 64 1 (g 64 1 + 1)) w) rfl ?_
                      refine kx_call (z := 131) (as := [.ref 65, .int (-1000000001)]) (rest := []) (v := some (.int (-1000000001))) (h1 := kv_wd (kv_up (kv_up g 64 1 (g 64 1 + 1)) 70 1 ((kv_up g 64 1 (g 64 1 + 1)) 70 1 + 1)) w) rfl (ev_errs (d := 898) (-1000000001) 1 (by decide) (by decide)) ?_
                      refine kx_st 0 (pc' := 40) (L' := [some (.ref 65), some (.int a), some (.int b), some (.int c), none]) (st' := [.int (-1000000001)]) (h' := kv_wd (kv_up (kv_up g 64 1 (g 64 1 + 1)) 70 1 ((kv_up g 64 1 (g 64 1 + 1)) 70 1 + 1)) w) rfl ?_
                      refine kx_ret (v := some (.int (-1000000001))) rfl ?_
                      exact ⟨rfl, _, _, rfl, kx_Rl_e hR⟩
    · refine kx_two (by decide) (Nat.le_of_ble_eq_true rfl) (by decide) (Nat.le_of_ble_eq_true rfl) ?_
      refine kx_st 0 (pc' := 0) (L' := [some (.ref 0), some (.int a), some (.int b), some (.int c)]) (st' := []) (h' := kv_wd g w) rfl ?_
      refine kx_st 2 (pc' := 3) (L' := [some (.ref 0), some (.int a), some (.int b), some (.int c)]) (st' := [.int 69, .int a]) (h' := kv_wd g w) rfl ?_
      refine kx_call (z := 124) (as := [.int a, .int 69]) (rest := []) (v := some (.int (kx_b (0 ≤ a ∧ a ≤ 69)))) (h1 := kv_wd g w) rfl (ev_within (d := 898) a 69) ?_
      refine kx_st 0 (pc' := 6) (L' := [some (.ref 0), some (.int a), some (.int b), some (.int c)]) (st' := [.int (kx_b (0 ≤ a ∧ a ≤ 69))]) (h' := kv_wd g w) rfl ?_
      refine kx_be (t := 36) rfl rfl (fun (h6 : ¬ (0 ≤ a ∧ a ≤ 69)) => ?_) (fun (h6 : (0 ≤ a ∧ a ≤ 69)) => ?_)
      · exact absurd ha h6
      · refine kx_st 0 (pc' := 9) (L' := [some (.ref 0), some (.int a), some (.int b), some (.int c)]) (st' := []) (h' := kv_wd g w) rfl ?_
        refine kx_st 3 (pc' := 14) (L' := [some (.ref 0), some (.int a), some (.int b), some (.int c)]) (st' := [.int b, .ref 1]) (h' := kv_wd g w) rfl ?_
        refine kx_call (z := 12) (as := [.ref 1, .int b]) (rest := []) (v := some (.int (kx_b (kx_pr s b)))) (h1 := kv_wd g w) rfl (ev_isPairS (d := 897) (g := g) (s := s) b1 a2 b) ?_
        refine kx_st 0 (pc' := 17) (L' := [some (.ref 0), some (.int a), some (.int b), some (.int c)]) (st' := [.int (kx_b (kx_pr s b))]) (h' := kv_wd g w) rfl ?_
        refine kx_be (t := 36) rfl rfl (fun (h17 : ¬ (kx_pr s b)) => ?_) (fun (h17 : (kx_pr s b)) => ?_)
        · refine kx_st 2 (pc' := 38) (L' := [some (.ref 0), some (.int a), some (.int b), some (.int c)]) (st' := [.int 1, .ref 0]) (h' := kv_wd g w) rfl ?_
          refine kx_call (z := 123) (as := [.ref 0, .int 1]) (rest := []) (v := some (.int (-1000000000 - nI 1))) (h1 := kv_wd (kv_up g 64 1 (g 64 1 + 1)) w) rfl (ev_error (d := 898) 1 (by decide) (by decide)) ?_
          refine kx_st 0 (pc' := 41) (L' := [some (.ref 0), some (.int a), some (.int b), some (.int c)]) (st' := [.int (-1000000000 - nI 1)]) (h' := kv_wd (kv_up g 64 1 (g 64 1 + 1)) w) rfl ?_
          refine kx_ret (v := some (.int (-1000000000 - nI 1))) rfl ?_
          refine ⟨_, _, _, rfl, rfl, ?_⟩
          refine kx_st 0 (pc' := 0) (L' := [some (.ref 65), some (.int a), some (.int b), some (.int c), none]) (st' := []) (h' := kv_wd (kv_up g 64 1 (g 64 1 + 1)) w) rfl ?_
          refine kx_st 3 (pc' := 4) (L' := [some (.ref 65), some (.int a), some (.int b), some (.int c), none]) (st' := [.int 69, .int 0, .int a]) (h' := kv_wd (kv_up g 64 1 (g 64 1 + 1)) w) rfl ?_
          refine kx_call (z := 130) (as := [.int a, .int 0, .int 69]) (rest := []) (v := some (.int (kx_b (0 ≤ a ∧ a ≤ 69)))) (h1 := kv_wd (kv_up g 64 1 (g 64 1 + 1)) w) rfl (ev_in (d := 898) a 0 69) ?_
          refine kx_st 0 (pc' := 7) (L' := [some (.ref 65), some (.int a), some (.int b), some (.int c), none]) (st' := [.int (kx_b (0 ≤ a ∧ a ≤ 69))]) (h' := kv_wd (kv_up g 64 1 (g 64 1 + 1)) w) rfl ?_
          refine kx_be (t := 34) rfl rfl (fun (m7 : ¬ (0 ≤ a ∧ a ≤ 69)) => ?_) (fun (m7 : (0 ≤ a ∧ a ≤ 69)) => ?_)
          · exact absurd ha m7
          · refine kx_st 0 (pc' := 10) (L' := [some (.ref 65), some (.int a), some (.int b), some (.int c), none]) (st' := []) (h' := kv_wd (kv_up g 64 1 (g 64 1 + 1)) w) rfl ?_
            refine kx_st 2 (pc' := 12) (L' := [some (.ref 65), some (.int a), some (.int b), some (.int c), none]) (st' := [.int b, .ref 65]) (h' := kv_wd (kv_up g 64 1 (g 64 1 + 1)) w) rfl ?_
            refine kx_call (z := 140) (as := [.ref 65, .int b]) (rest := []) (v := some (.int (kx_b (kx_pr s b)))) (h1 := kv_wd (kv_up g 64 1 (g 64 1 + 1)) w) rfl (ev_mPairS (d := 896) (g := kv_up g 64 1 (g 64 1 + 1)) (s := s) b2 a2 b) ?_
            refine kx_st 0 (pc' := 15) (L' := [some (.ref 65), some (.int a), some (.int b), some (.int c), none]) (st' := [.int (kx_b (kx_pr s b))]) (h' := kv_wd (kv_up g 64 1 (g 64 1 + 1)) w) rfl ?_
            refine kx_be (t := 34) rfl rfl (fun (m15 : ¬ (kx_pr s b)) => ?_) (fun (m15 : (kx_pr s b)) => ?_)
            · refine kx_st 2 (pc' := 37) (L' := [some (.ref 65), some (.int a), some (.int b), some (.int c), none]) (st' := [.int (-1000000001), .ref 65]) (h' := kv_wd (kv_up g 64 1 (g 64 1 + 1)) w) rfl ?_
              refine kx_call (z := 131) (as := [.ref 65, .int (-1000000001)]) (rest := []) (v := some (.int (-1000000001))) (h1 := kv_wd (kv_up (kv_up g 64 1 (g 64 1 + 1)) 70 1 ((kv_up g 64 1 (g 64 1 + 1)) 70 1 + 1)) w) rfl (ev_errs (d := 898) (-1000000001) 1 (by decide) (by decide)) ?_
              refine kx_st 0 (pc' := 40) (L' := [some (.ref 65), some (.int a), some (.int b), some (.int c), none]) (st' := [.int (-1000000001)]) (h' := kv_wd (kv_up (kv_up g 64 1 (g 64 1 + 1)) 70 1 ((kv_up g 64 1 (g 64 1 + 1)) 70 1 + 1)) w) rfl ?_
              refine kx_ret (v := some (.int (-1000000001))) rfl ?_
              exact ⟨rfl, _, _, rfl, kx_Rl_e hR⟩
            · exact absurd m15 hp
        · exact absurd h17 hp
  · refine kx_two (by decide) (Nat.le_of_ble_eq_true rfl) (by decide) (Nat.le_of_ble_eq_true rfl) ?_
    refine kx_st 0 (pc' := 0) (L' := [some (.ref 0), some (.int a), some (.int b), some (.int c)]) (st' := []) (h' := kv_wd g w) rfl ?_
    refine kx_st 2 (pc' := 3) (L' := [some (.ref 0), some (.int a), some (.int b), some (.int c)]) (st' := [.int 69, .int a]) (h' := kv_wd g w) rfl ?_
    refine kx_call (z := 124) (as := [.int a, .int 69]) (rest := []) (v := some (.int (kx_b (0 ≤ a ∧ a ≤ 69)))) (h1 := kv_wd g w) rfl (ev_within (d := 898) a 69) ?_
    refine kx_st 0 (pc' := 6) (L' := [some (.ref 0), some (.int a), some (.int b), some (.int c)]) (st' := [.int (kx_b (0 ≤ a ∧ a ≤ 69))]) (h' := kv_wd g w) rfl ?_
    refine kx_be (t := 36) rfl rfl (fun (h6 : ¬ (0 ≤ a ∧ a ≤ 69)) => ?_) (fun (h6 : (0 ≤ a ∧ a ≤ 69)) => ?_)
    · refine kx_st 2 (pc' := 38) (L' := [some (.ref 0), some (.int a), some (.int b), some (.int c)]) (st' := [.int 1, .ref 0]) (h' := kv_wd g w) rfl ?_
      refine kx_call (z := 123) (as := [.ref 0, .int 1]) (rest := []) (v := some (.int (-1000000000 - nI 1))) (h1 := kv_wd (kv_up g 64 1 (g 64 1 + 1)) w) rfl (ev_error (d := 898) 1 (by decide) (by decide)) ?_
      refine kx_st 0 (pc' := 41) (L' := [some (.ref 0), some (.int a), some (.int b), some (.int c)]) (st' := [.int (-1000000000 - nI 1)]) (h' := kv_wd (kv_up g 64 1 (g 64 1 + 1)) w) rfl ?_
      refine kx_ret (v := some (.int (-1000000000 - nI 1))) rfl ?_
      refine ⟨_, _, _, rfl, rfl, ?_⟩
      refine kx_st 0 (pc' := 0) (L' := [some (.ref 65), some (.int a), some (.int b), some (.int c), none]) (st' := []) (h' := kv_wd (kv_up g 64 1 (g 64 1 + 1)) w) rfl ?_
      refine kx_st 3 (pc' := 4) (L' := [some (.ref 65), some (.int a), some (.int b), some (.int c), none]) (st' := [.int 69, .int 0, .int a]) (h' := kv_wd (kv_up g 64 1 (g 64 1 + 1)) w) rfl ?_
      refine kx_call (z := 130) (as := [.int a, .int 0, .int 69]) (rest := []) (v := some (.int (kx_b (0 ≤ a ∧ a ≤ 69)))) (h1 := kv_wd (kv_up g 64 1 (g 64 1 + 1)) w) rfl (ev_in (d := 898) a 0 69) ?_
      refine kx_st 0 (pc' := 7) (L' := [some (.ref 65), some (.int a), some (.int b), some (.int c), none]) (st' := [.int (kx_b (0 ≤ a ∧ a ≤ 69))]) (h' := kv_wd (kv_up g 64 1 (g 64 1 + 1)) w) rfl ?_
      refine kx_be (t := 34) rfl rfl (fun (m7 : ¬ (0 ≤ a ∧ a ≤ 69)) => ?_) (fun (m7 : (0 ≤ a ∧ a ≤ 69)) => ?_)
      · refine kx_st 2 (pc' := 37) (L' := [some (.ref 65), some (.int a), some (.int b), some (.int c), none]) (st' := [.int (-1000000001), .ref 65]) (h' := kv_wd (kv_up g 64 1 (g 64 1 + 1)) w) rfl ?_
        refine kx_call (z := 131) (as := [.ref 65, .int (-1000000001)]) (rest := []) (v := some (.int (-1000000001))) (h1 := kv_wd (kv_up (kv_up g 64 1 (g 64 1 + 1)) 70 1 ((kv_up g 64 1 (g 64 1 + 1)) 70 1 + 1)) w) rfl (ev_errs (d := 898) (-1000000001) 1 (by decide) (by decide)) ?_
        refine kx_st 0 (pc' := 40) (L' := [some (.ref 65), some (.int a), some (.int b), some (.int c), none]) (st' := [.int (-1000000001)]) (h' := kv_wd (kv_up (kv_up g 64 1 (g 64 1 + 1)) 70 1 ((kv_up g 64 1 (g 64 1 + 1)) 70 1 + 1)) w) rfl ?_
        refine kx_ret (v := some (.int (-1000000001))) rfl ?_
        exact ⟨rfl, _, _, rfl, kx_Rl_e hR⟩
      · exact absurd m7 ha
    · exact absurd h6 ha
