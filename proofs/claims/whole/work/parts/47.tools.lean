/-! TOOLS of the pairs that think of years -/
theorem kx_Rl_q {g : kv_S} {w : kv_W} {i : Nat} (h : kx_Rl kx_L g w i) : ∃ q : kx_Q, kx_hq (g 3) (g 4) (g 2 2) q ∧ kx_hmq (g 66) q ∧ kx_qb q ∧ q.2.2 ≤ 999 := by
  obtain ⟨-, -, ⟨-, H2, ⟨y, h1, h2, h3⟩, -⟩, -⟩ := h
  exact ⟨(fun p => g 66 (8 + p), fun p => g 66 (14 + p), y), ⟨fun p hp => (H2 p hp).1, h2⟩, ⟨fun p hp => ⟨rfl, rfl⟩, h3⟩, fun p hp => (H2 p hp).2.2, h1⟩
/-- thought of, then an error on both sides -/
theorem kx_Rl_roe {g g' : kv_S} {w w' : kv_W} {i k : Nat} (h : kx_Rl kx_L g w i) (hw : w'.2 = w.2) (e : ∀ b, b ≠ 8 → b ≠ 11 → (b < 44 ∨ 52 < b) → b ≠ 64 → b ≠ 65 → b ≠ 66 → b ≠ 68 → b ≠ 69 → b ≠ 70 → g' b = g b) (e65 : ∀ k, (k < 7 ∨ 14 < k) → g' 65 k = g 65 k) (e66 : ∀ j, j < 268 → g' 66 j = g 66 j) (x64 : g' 64 = upd (g 64) k (g 64 k + 1)) (x70 : g' 70 = upd (g 70) k (g 70 k + 1)) : kx_Rl kx_L g' w' (i + 1) := by
  have h0 : kx_Rl kx_L (fun b => if b = 64 then g 64 else if b = 70 then g 70 else g' b) w' i := by
    refine kx_Rl_ro h hw (fun b b1 b2 b3 b4 b5 b6 b7 => ?_) (fun k hk => e65 k hk) (fun j hj => e66 j hj)
    by_cases h64 : b = 64
    · rw [if_pos h64, h64]
    · rw [if_neg h64]
      by_cases h70 : b = 70
      · rw [if_pos h70, h70]
      · rw [if_neg h70]; exact e b b1 b2 b3 h64 b4 b5 b6 b7 h70
  have h1 := kx_Rl_e (k := k) h0
  have eg : kx_e2 (fun b => if b = 64 then g 64 else if b = 70 then g 70 else g' b) k = g' := by
    funext b
    unfold kx_e2 kv_up
    by_cases h70 : b = 70
    · rw [if_pos h70, h70, x70]; rfl
    · rw [if_neg h70]
      by_cases h64 : b = 64
      · rw [if_pos h64, h64, x64]; rfl
      · rw [if_neg h64]
        show (if b = 64 then g 64 else if b = 70 then g 70 else g' b) = g' b
        rw [if_neg h64, if_neg h70]
  rw [eg] at h1
  exact h1
/-- the reference's row put back -/
theorem kx_tm_end {g g2 : kv_S} (h3 : ∀ b, b ≠ 65 → b ≠ 66 → g2 b = (kv_uf g 68 (kx_mv (g 66) (g 68) 268)) b) (j : Nat) (hj : j < 268) : kx_mv (g2 68) (g2 66) 268 j = g 66 j := by
  unfold kx_mv
  rw [if_pos hj, h3 68 (by omega) (by omega), kv_uf_self]
  unfold kx_mv
  rw [if_pos hj]
def kx_bcn (x : Int32) : Int32 := (((((((x - (((x.toUInt32 >>> ((1 : Int32).toUInt32 &&& Int32.toUInt32 31)).toInt32) &&& 1431655765)) &&& 858993459) + ((((x - (((x.toUInt32 >>> ((1 : Int32).toUInt32 &&& Int32.toUInt32 31)).toInt32) &&& 1431655765)).toUInt32 >>> ((2 : Int32).toUInt32 &&& Int32.toUInt32 31)).toInt32) &&& 858993459)) + (((((x - (((x.toUInt32 >>> ((1 : Int32).toUInt32 &&& Int32.toUInt32 31)).toInt32) &&& 1431655765)) &&& 858993459) + ((((x - (((x.toUInt32 >>> ((1 : Int32).toUInt32 &&& Int32.toUInt32 31)).toInt32) &&& 1431655765)).toUInt32 >>> ((2 : Int32).toUInt32 &&& Int32.toUInt32 31)).toInt32) &&& 858993459)).toUInt32 >>> ((4 : Int32).toUInt32 &&& Int32.toUInt32 31)).toInt32)) &&& 252645135) + (((((((x - (((x.toUInt32 >>> ((1 : Int32).toUInt32 &&& Int32.toUInt32 31)).toInt32) &&& 1431655765)) &&& 858993459) + ((((x - (((x.toUInt32 >>> ((1 : Int32).toUInt32 &&& Int32.toUInt32 31)).toInt32) &&& 1431655765)).toUInt32 >>> ((2 : Int32).toUInt32 &&& Int32.toUInt32 31)).toInt32) &&& 858993459)) + (((((x - (((x.toUInt32 >>> ((1 : Int32).toUInt32 &&& Int32.toUInt32 31)).toInt32) &&& 1431655765)) &&& 858993459) + ((((x - (((x.toUInt32 >>> ((1 : Int32).toUInt32 &&& Int32.toUInt32 31)).toInt32) &&& 1431655765)).toUInt32 >>> ((2 : Int32).toUInt32 &&& Int32.toUInt32 31)).toInt32) &&& 858993459)).toUInt32 >>> ((4 : Int32).toUInt32 &&& Int32.toUInt32 31)).toInt32)) &&& 252645135).toUInt32 >>> ((8 : Int32).toUInt32 &&& Int32.toUInt32 31)).toInt32)) + ((((((((x - (((x.toUInt32 >>> ((1 : Int32).toUInt32 &&& Int32.toUInt32 31)).toInt32) &&& 1431655765)) &&& 858993459) + ((((x - (((x.toUInt32 >>> ((1 : Int32).toUInt32 &&& Int32.toUInt32 31)).toInt32) &&& 1431655765)).toUInt32 >>> ((2 : Int32).toUInt32 &&& Int32.toUInt32 31)).toInt32) &&& 858993459)) + (((((x - (((x.toUInt32 >>> ((1 : Int32).toUInt32 &&& Int32.toUInt32 31)).toInt32) &&& 1431655765)) &&& 858993459) + ((((x - (((x.toUInt32 >>> ((1 : Int32).toUInt32 &&& Int32.toUInt32 31)).toInt32) &&& 1431655765)).toUInt32 >>> ((2 : Int32).toUInt32 &&& Int32.toUInt32 31)).toInt32) &&& 858993459)).toUInt32 >>> ((4 : Int32).toUInt32 &&& Int32.toUInt32 31)).toInt32)) &&& 252645135) + (((((((x - (((x.toUInt32 >>> ((1 : Int32).toUInt32 &&& Int32.toUInt32 31)).toInt32) &&& 1431655765)) &&& 858993459) + ((((x - (((x.toUInt32 >>> ((1 : Int32).toUInt32 &&& Int32.toUInt32 31)).toInt32) &&& 1431655765)).toUInt32 >>> ((2 : Int32).toUInt32 &&& Int32.toUInt32 31)).toInt32) &&& 858993459)) + (((((x - (((x.toUInt32 >>> ((1 : Int32).toUInt32 &&& Int32.toUInt32 31)).toInt32) &&& 1431655765)) &&& 858993459) + ((((x - (((x.toUInt32 >>> ((1 : Int32).toUInt32 &&& Int32.toUInt32 31)).toInt32) &&& 1431655765)).toUInt32 >>> ((2 : Int32).toUInt32 &&& Int32.toUInt32 31)).toInt32) &&& 858993459)).toUInt32 >>> ((4 : Int32).toUInt32 &&& Int32.toUInt32 31)).toInt32)) &&& 252645135).toUInt32 >>> ((8 : Int32).toUInt32 &&& Int32.toUInt32 31)).toInt32)).toUInt32 >>> ((16 : Int32).toUInt32 &&& Int32.toUInt32 31)).toInt32)) &&& 63
/-- the row of hands, who is there, the draw: all may be others -/
theorem kx_Rl_gen {g g' : kv_S} {w w' : kv_W} {i s t' : Nat} (h : kx_Rl kx_L g w i) (hw : w'.2 = w.2) (q : kx_Q) (hx : kx_hq (g' 3) (g' 4) (g' 2 2) q) (hm : kx_hmq (g' 66) q) (hb : kx_qb q) (hy : q.2.2 ≤ 999) (hs : g 1 0 = nI s) (hs6 : s ≤ 6) (ht : t' < 2 ^ s) (x11 : g' 1 1 = nI t') (x20 : ∀ p, p < s → g' 66 (20 + p) = if t'.testBit p = true then 1 else 0) (x20b : ∀ p, p < 6 → g' 66 (20 + p) = 0 ∨ g' 66 (20 + p) = 1) (z11 : g' 1 11 = g' 66 1) (e1 : ∀ k, k ≠ 1 → k ≠ 11 → g' 1 k = g 1 k) (e : ∀ b, b ≠ 1 → b ≠ 2 → b ≠ 3 → b ≠ 4 → b ≠ 8 → b ≠ 11 → (b < 44 ∨ 52 < b) → b ≠ 65 → b ≠ 66 → b ≠ 68 → b ≠ 69 → g' b = g b) (e65 : ∀ k, (k < 7 ∨ 14 < k) → g' 65 k = g 65 k) (e66 : ∀ j, 1 < j → (j < 8 ∨ 26 ≤ j) → j < 268 → g' 66 j = g 66 j) : kx_Rl kx_L g' w' (i + 1) := by
  have f : ∀ b, b ≠ 1 ∧ b ≠ 2 ∧ b ≠ 3 ∧ b ≠ 4 ∧ b ≠ 8 ∧ b ≠ 11 ∧ (b < 44 ∨ 52 < b) ∧ b ≠ 65 ∧ b ≠ 66 ∧ b ≠ 68 ∧ b ≠ 69 → g' b = g b := fun b z => e b z.1 z.2.1 z.2.2.1 z.2.2.2.1 z.2.2.2.2.1 z.2.2.2.2.2.1 z.2.2.2.2.2.2.1 z.2.2.2.2.2.2.2.1 z.2.2.2.2.2.2.2.2.1 z.2.2.2.2.2.2.2.2.2.1 z.2.2.2.2.2.2.2.2.2.2
  obtain ⟨Q, cu, ⟨H1, H2, H3, H4, H5, hz, l0, l1⟩, im, sh, tr, er⟩ := id h
  refine kx_Rl_hn h (by unfold kv_qok at Q ⊢; rw [hw]; exact Q) (fun b b1 b2 => f b (by omega)) (fun k hk => e65 k (by omega)) ⟨by rw [f 6 (by omega)], by rw [f 9 (by omega)]⟩ ⟨?_, ?_, ?_, ?_, ?_, z11, ?_, ?_⟩
  · obtain ⟨s', t, m, ⟨a1, a2, a3, a4⟩, ⟨b1, b2⟩, ⟨c1, c2⟩, ⟨d1, d2⟩, hk⟩ := id H1
    have es : s' = s := kx_nI_inj (by omega) (by omega) (b1.symm.trans hs)
    subst es
    refine ⟨s', t', m, ⟨a1, a2, ht, a4⟩, ⟨by rw [e1 0 (by omega) (by omega)]; exact b1, by rw [e66 3 (by omega) (by omega) (by omega)]; exact b2⟩, ⟨x11, x20⟩, ⟨by rw [e1 4 (by omega) (by omega)]; exact d1, by rw [e66 2 (by omega) (by omega) (by omega)]; exact d2⟩, fun k hkm => ?_⟩
    refine kx_K_cg (fun c hc => ?_) (fun c hc => ?_) (hk k hkm)
    · rw [kx_kn_at (by omega), kx_kn_at (by omega), f (14 + k) (by omega)]
    · exact e66 _ (by omega) (by omega) (by omega)
  · intro p hp
    exact ⟨⟨(hx.1 p hp).1.trans (hm.1 p hp).1.symm, (hx.1 p hp).2.trans (hm.1 p hp).2.symm⟩, x20b p hp, by obtain ⟨x, h1, h2⟩ := (hb p hp).1; exact ⟨x, h1, (hm.1 p hp).1.trans h2⟩, by obtain ⟨x, h1, h2⟩ := (hb p hp).2; exact ⟨x, h1, (hm.1 p hp).2.trans h2⟩⟩
  · exact ⟨q.2.2, hy, hx.2, hm.2⟩
  · exact kx_H4_cg (e1 8 (by omega) (by omega)) (fun j _ => by rw [f 12 (by omega)]) (fun j hj => e66 j (by omega) (by omega) (by omega)) H4
  · exact kx_H5_cg (e1 10 (by omega) (by omega)) (fun j _ => by rw [f 13 (by omega)]) (fun j hj => e66 j (by omega) (by omega) (by omega)) H5
  · exact kx_L_cg (by rw [f 6 (by omega)]) (fun j _ => by rw [f 7 (by omega)]) (e66 6 (by omega) (by omega) (by omega)) (fun j hj => e66 _ (by omega) (by omega) (by omega)) l0
  · exact kx_L_cg (by rw [f 9 (by omega)]) (fun j _ => by rw [f 10 (by omega)]) (e66 7 (by omega) (by omega) (by omega)) (fun j hj => e66 _ (by omega) (by omega) (by omega)) l1
set_option maxRecDepth 100000 in
theorem ev_bitCount {E : kv_V} {d : Nat} {g : kv_S} {w : kv_W} (x : Int32) : kv_ev E (d + 1) 222 [.int x] (kv_wd g w) (some (.int (kx_bcn x))) (kv_wd g w) := by
  refine kx_ev (d := d + 0) (by decide) (Nat.le_of_ble_eq_true rfl) ?_
  refine kx_st 0 (pc' := 0) (L' := [some (.int x)]) (st' := []) (h' := kv_wd g w) rfl ?_
  refine kx_st 41 (pc' := 52) (L' := [some (.int (((((((x - (((x.toUInt32 >>> ((1 : Int32).toUInt32 &&& Int32.toUInt32 31)).toInt32) &&& 1431655765)) &&& 858993459) + ((((x - (((x.toUInt32 >>> ((1 : Int32).toUInt32 &&& Int32.toUInt32 31)).toInt32) &&& 1431655765)).toUInt32 >>> ((2 : Int32).toUInt32 &&& Int32.toUInt32 31)).toInt32) &&& 858993459)) + (((((x - (((x.toUInt32 >>> ((1 : Int32).toUInt32 &&& Int32.toUInt32 31)).toInt32) &&& 1431655765)) &&& 858993459) + ((((x - (((x.toUInt32 >>> ((1 : Int32).toUInt32 &&& Int32.toUInt32 31)).toInt32) &&& 1431655765)).toUInt32 >>> ((2 : Int32).toUInt32 &&& Int32.toUInt32 31)).toInt32) &&& 858993459)).toUInt32 >>> ((4 : Int32).toUInt32 &&& Int32.toUInt32 31)).toInt32)) &&& 252645135) + (((((((x - (((x.toUInt32 >>> ((1 : Int32).toUInt32 &&& Int32.toUInt32 31)).toInt32) &&& 1431655765)) &&& 858993459) + ((((x - (((x.toUInt32 >>> ((1 : Int32).toUInt32 &&& Int32.toUInt32 31)).toInt32) &&& 1431655765)).toUInt32 >>> ((2 : Int32).toUInt32 &&& Int32.toUInt32 31)).toInt32) &&& 858993459)) + (((((x - (((x.toUInt32 >>> ((1 : Int32).toUInt32 &&& Int32.toUInt32 31)).toInt32) &&& 1431655765)) &&& 858993459) + ((((x - (((x.toUInt32 >>> ((1 : Int32).toUInt32 &&& Int32.toUInt32 31)).toInt32) &&& 1431655765)).toUInt32 >>> ((2 : Int32).toUInt32 &&& Int32.toUInt32 31)).toInt32) &&& 858993459)).toUInt32 >>> ((4 : Int32).toUInt32 &&& Int32.toUInt32 31)).toInt32)) &&& 252645135).toUInt32 >>> ((8 : Int32).toUInt32 &&& Int32.toUInt32 31)).toInt32)) + ((((((((x - (((x.toUInt32 >>> ((1 : Int32).toUInt32 &&& Int32.toUInt32 31)).toInt32) &&& 1431655765)) &&& 858993459) + ((((x - (((x.toUInt32 >>> ((1 : Int32).toUInt32 &&& Int32.toUInt32 31)).toInt32) &&& 1431655765)).toUInt32 >>> ((2 : Int32).toUInt32 &&& Int32.toUInt32 31)).toInt32) &&& 858993459)) + (((((x - (((x.toUInt32 >>> ((1 : Int32).toUInt32 &&& Int32.toUInt32 31)).toInt32) &&& 1431655765)) &&& 858993459) + ((((x - (((x.toUInt32 >>> ((1 : Int32).toUInt32 &&& Int32.toUInt32 31)).toInt32) &&& 1431655765)).toUInt32 >>> ((2 : Int32).toUInt32 &&& Int32.toUInt32 31)).toInt32) &&& 858993459)).toUInt32 >>> ((4 : Int32).toUInt32 &&& Int32.toUInt32 31)).toInt32)) &&& 252645135) + (((((((x - (((x.toUInt32 >>> ((1 : Int32).toUInt32 &&& Int32.toUInt32 31)).toInt32) &&& 1431655765)) &&& 858993459) + ((((x - (((x.toUInt32 >>> ((1 : Int32).toUInt32 &&& Int32.toUInt32 31)).toInt32) &&& 1431655765)).toUInt32 >>> ((2 : Int32).toUInt32 &&& Int32.toUInt32 31)).toInt32) &&& 858993459)) + (((((x - (((x.toUInt32 >>> ((1 : Int32).toUInt32 &&& Int32.toUInt32 31)).toInt32) &&& 1431655765)) &&& 858993459) + ((((x - (((x.toUInt32 >>> ((1 : Int32).toUInt32 &&& Int32.toUInt32 31)).toInt32) &&& 1431655765)).toUInt32 >>> ((2 : Int32).toUInt32 &&& Int32.toUInt32 31)).toInt32) &&& 858993459)).toUInt32 >>> ((4 : Int32).toUInt32 &&& Int32.toUInt32 31)).toInt32)) &&& 252645135).toUInt32 >>> ((8 : Int32).toUInt32 &&& Int32.toUInt32 31)).toInt32)).toUInt32 >>> ((16 : Int32).toUInt32 &&& Int32.toUInt32 31)).toInt32)))]) (st' := [.int ((((((((x - (((x.toUInt32 >>> ((1 : Int32).toUInt32 &&& Int32.toUInt32 31)).toInt32) &&& 1431655765)) &&& 858993459) + ((((x - (((x.toUInt32 >>> ((1 : Int32).toUInt32 &&& Int32.toUInt32 31)).toInt32) &&& 1431655765)).toUInt32 >>> ((2 : Int32).toUInt32 &&& Int32.toUInt32 31)).toInt32) &&& 858993459)) + (((((x - (((x.toUInt32 >>> ((1 : Int32).toUInt32 &&& Int32.toUInt32 31)).toInt32) &&& 1431655765)) &&& 858993459) + ((((x - (((x.toUInt32 >>> ((1 : Int32).toUInt32 &&& Int32.toUInt32 31)).toInt32) &&& 1431655765)).toUInt32 >>> ((2 : Int32).toUInt32 &&& Int32.toUInt32 31)).toInt32) &&& 858993459)).toUInt32 >>> ((4 : Int32).toUInt32 &&& Int32.toUInt32 31)).toInt32)) &&& 252645135) + (((((((x - (((x.toUInt32 >>> ((1 : Int32).toUInt32 &&& Int32.toUInt32 31)).toInt32) &&& 1431655765)) &&& 858993459) + ((((x - (((x.toUInt32 >>> ((1 : Int32).toUInt32 &&& Int32.toUInt32 31)).toInt32) &&& 1431655765)).toUInt32 >>> ((2 : Int32).toUInt32 &&& Int32.toUInt32 31)).toInt32) &&& 858993459)) + (((((x - (((x.toUInt32 >>> ((1 : Int32).toUInt32 &&& Int32.toUInt32 31)).toInt32) &&& 1431655765)) &&& 858993459) + ((((x - (((x.toUInt32 >>> ((1 : Int32).toUInt32 &&& Int32.toUInt32 31)).toInt32) &&& 1431655765)).toUInt32 >>> ((2 : Int32).toUInt32 &&& Int32.toUInt32 31)).toInt32) &&& 858993459)).toUInt32 >>> ((4 : Int32).toUInt32 &&& Int32.toUInt32 31)).toInt32)) &&& 252645135).toUInt32 >>> ((8 : Int32).toUInt32 &&& Int32.toUInt32 31)).toInt32)) + ((((((((x - (((x.toUInt32 >>> ((1 : Int32).toUInt32 &&& Int32.toUInt32 31)).toInt32) &&& 1431655765)) &&& 858993459) + ((((x - (((x.toUInt32 >>> ((1 : Int32).toUInt32 &&& Int32.toUInt32 31)).toInt32) &&& 1431655765)).toUInt32 >>> ((2 : Int32).toUInt32 &&& Int32.toUInt32 31)).toInt32) &&& 858993459)) + (((((x - (((x.toUInt32 >>> ((1 : Int32).toUInt32 &&& Int32.toUInt32 31)).toInt32) &&& 1431655765)) &&& 858993459) + ((((x - (((x.toUInt32 >>> ((1 : Int32).toUInt32 &&& Int32.toUInt32 31)).toInt32) &&& 1431655765)).toUInt32 >>> ((2 : Int32).toUInt32 &&& Int32.toUInt32 31)).toInt32) &&& 858993459)).toUInt32 >>> ((4 : Int32).toUInt32 &&& Int32.toUInt32 31)).toInt32)) &&& 252645135) + (((((((x - (((x.toUInt32 >>> ((1 : Int32).toUInt32 &&& Int32.toUInt32 31)).toInt32) &&& 1431655765)) &&& 858993459) + ((((x - (((x.toUInt32 >>> ((1 : Int32).toUInt32 &&& Int32.toUInt32 31)).toInt32) &&& 1431655765)).toUInt32 >>> ((2 : Int32).toUInt32 &&& Int32.toUInt32 31)).toInt32) &&& 858993459)) + (((((x - (((x.toUInt32 >>> ((1 : Int32).toUInt32 &&& Int32.toUInt32 31)).toInt32) &&& 1431655765)) &&& 858993459) + ((((x - (((x.toUInt32 >>> ((1 : Int32).toUInt32 &&& Int32.toUInt32 31)).toInt32) &&& 1431655765)).toUInt32 >>> ((2 : Int32).toUInt32 &&& Int32.toUInt32 31)).toInt32) &&& 858993459)).toUInt32 >>> ((4 : Int32).toUInt32 &&& Int32.toUInt32 31)).toInt32)) &&& 252645135).toUInt32 >>> ((8 : Int32).toUInt32 &&& Int32.toUInt32 31)).toInt32)).toUInt32 >>> ((16 : Int32).toUInt32 &&& Int32.toUInt32 31)).toInt32)) &&& 63)]) (h' := kv_wd g w) rfl ?_
  refine kx_ret (v := some (.int ((((((((x - (((x.toUInt32 >>> ((1 : Int32).toUInt32 &&& Int32.toUInt32 31)).toInt32) &&& 1431655765)) &&& 858993459) + ((((x - (((x.toUInt32 >>> ((1 : Int32).toUInt32 &&& Int32.toUInt32 31)).toInt32) &&& 1431655765)).toUInt32 >>> ((2 : Int32).toUInt32 &&& Int32.toUInt32 31)).toInt32) &&& 858993459)) + (((((x - (((x.toUInt32 >>> ((1 : Int32).toUInt32 &&& Int32.toUInt32 31)).toInt32) &&& 1431655765)) &&& 858993459) + ((((x - (((x.toUInt32 >>> ((1 : Int32).toUInt32 &&& Int32.toUInt32 31)).toInt32) &&& 1431655765)).toUInt32 >>> ((2 : Int32).toUInt32 &&& Int32.toUInt32 31)).toInt32) &&& 858993459)).toUInt32 >>> ((4 : Int32).toUInt32 &&& Int32.toUInt32 31)).toInt32)) &&& 252645135) + (((((((x - (((x.toUInt32 >>> ((1 : Int32).toUInt32 &&& Int32.toUInt32 31)).toInt32) &&& 1431655765)) &&& 858993459) + ((((x - (((x.toUInt32 >>> ((1 : Int32).toUInt32 &&& Int32.toUInt32 31)).toInt32) &&& 1431655765)).toUInt32 >>> ((2 : Int32).toUInt32 &&& Int32.toUInt32 31)).toInt32) &&& 858993459)) + (((((x - (((x.toUInt32 >>> ((1 : Int32).toUInt32 &&& Int32.toUInt32 31)).toInt32) &&& 1431655765)) &&& 858993459) + ((((x - (((x.toUInt32 >>> ((1 : Int32).toUInt32 &&& Int32.toUInt32 31)).toInt32) &&& 1431655765)).toUInt32 >>> ((2 : Int32).toUInt32 &&& Int32.toUInt32 31)).toInt32) &&& 858993459)).toUInt32 >>> ((4 : Int32).toUInt32 &&& Int32.toUInt32 31)).toInt32)) &&& 252645135).toUInt32 >>> ((8 : Int32).toUInt32 &&& Int32.toUInt32 31)).toInt32)) + ((((((((x - (((x.toUInt32 >>> ((1 : Int32).toUInt32 &&& Int32.toUInt32 31)).toInt32) &&& 1431655765)) &&& 858993459) + ((((x - (((x.toUInt32 >>> ((1 : Int32).toUInt32 &&& Int32.toUInt32 31)).toInt32) &&& 1431655765)).toUInt32 >>> ((2 : Int32).toUInt32 &&& Int32.toUInt32 31)).toInt32) &&& 858993459)) + (((((x - (((x.toUInt32 >>> ((1 : Int32).toUInt32 &&& Int32.toUInt32 31)).toInt32) &&& 1431655765)) &&& 858993459) + ((((x - (((x.toUInt32 >>> ((1 : Int32).toUInt32 &&& Int32.toUInt32 31)).toInt32) &&& 1431655765)).toUInt32 >>> ((2 : Int32).toUInt32 &&& Int32.toUInt32 31)).toInt32) &&& 858993459)).toUInt32 >>> ((4 : Int32).toUInt32 &&& Int32.toUInt32 31)).toInt32)) &&& 252645135) + (((((((x - (((x.toUInt32 >>> ((1 : Int32).toUInt32 &&& Int32.toUInt32 31)).toInt32) &&& 1431655765)) &&& 858993459) + ((((x - (((x.toUInt32 >>> ((1 : Int32).toUInt32 &&& Int32.toUInt32 31)).toInt32) &&& 1431655765)).toUInt32 >>> ((2 : Int32).toUInt32 &&& Int32.toUInt32 31)).toInt32) &&& 858993459)) + (((((x - (((x.toUInt32 >>> ((1 : Int32).toUInt32 &&& Int32.toUInt32 31)).toInt32) &&& 1431655765)) &&& 858993459) + ((((x - (((x.toUInt32 >>> ((1 : Int32).toUInt32 &&& Int32.toUInt32 31)).toInt32) &&& 1431655765)).toUInt32 >>> ((2 : Int32).toUInt32 &&& Int32.toUInt32 31)).toInt32) &&& 858993459)).toUInt32 >>> ((4 : Int32).toUInt32 &&& Int32.toUInt32 31)).toInt32)) &&& 252645135).toUInt32 >>> ((8 : Int32).toUInt32 &&& Int32.toUInt32 31)).toInt32)).toUInt32 >>> ((16 : Int32).toUInt32 &&& Int32.toUInt32 31)).toInt32)) &&& 63))) rfl ?_
  exact ⟨rfl, rfl⟩
def kx_bs : Nat → Int32 → Option Int32
  | 0, x => if x = 0 then some 0 else none
  | f + 1, x => if x = 0 then some 0 else (kx_bs f (x &&& (x - 1))).map (fun r => 1 + r)
theorem kx_bs_ok : ∀ n, n < 256 → kx_bs 9 (nI n) = some (kx_bcn (nI n)) := by decide +kernel
set_option maxRecDepth 100000 in
theorem lp_bits {E : kv_V} {d : Nat} {g : kv_S} {w : kv_W} (x0 : Int32) {P : Option Value → kv_H → Prop} : ∀ (f : Nat) (x c r : Int32), kx_bs f x = some r → P (some (.int (c + r))) (kv_wd g w) → kx_V E d 134 4 [some (.int x0), some (.int c), some (.int x)] [] (kv_wd g w) P := by
  intro f
  induction f with
  | zero =>
    intro x c r hr hP
    have hx : x = 0 ∧ r = 0 := by
      unfold kx_bs at hr
      split at hr
      · rename_i h; cases hr; exact ⟨h, rfl⟩
      · cases hr
    refine kx_st 1 (pc' := 5) (L' := [some (.int x0), some (.int c), some (.int x)]) (st' := [.int x]) (h' := kv_wd g w) rfl ?_
    refine kx_bc (t := 20) rfl rfl (fun (h5 : x = 0) => ?_) (fun (h5 : ¬ (x = 0)) => ?_)
    · refine kx_st 1 (pc' := 21) (L' := [some (.int x0), some (.int c), some (.int x)]) (st' := [.int c]) (h' := kv_wd g w) rfl ?_
      refine kx_ret (v := some (.int c)) rfl ?_
      rw [hx.2, show c + 0 = c by grind] at hP
      exact hP
    · exact absurd hx.1 h5
  | succ f ih =>
    intro x c r hr hP
    refine kx_st 1 (pc' := 5) (L' := [some (.int x0), some (.int c), some (.int x)]) (st' := [.int x]) (h' := kv_wd g w) rfl ?_
    refine kx_bc (t := 20) rfl rfl (fun (h5 : x = 0) => ?_) (fun (h5 : ¬ (x = 0)) => ?_)
    · refine kx_st 1 (pc' := 21) (L' := [some (.int x0), some (.int c), some (.int x)]) (st' := [.int c]) (h' := kv_wd g w) rfl ?_
      refine kx_ret (v := some (.int c)) rfl ?_
      unfold kx_bs at hr
      rw [if_pos h5] at hr
      cases hr
      rw [show c + 0 = c by grind] at hP
      exact hP
    · refine kx_st 0 (pc' := 8) (L' := [some (.int x0), some (.int c), some (.int x)]) (st' := []) (h' := kv_wd g w) rfl ?_
      refine kx_st 8 (pc' := 4) (L' := [some (.int x0), some (.int (c + 1)), some (.int (x &&& (x - 1)))]) (st' := []) (h' := kv_wd g w) rfl ?_
      unfold kx_bs at hr
      rw [if_neg h5] at hr
      obtain ⟨r1, e1, e2⟩ := Option.map_eq_some_iff.mp hr
      refine ih _ _ r1 e1 ?_
      rw [show c + 1 + r1 = c + (1 + r1) by grind, e2]
      exact hP
set_option maxRecDepth 100000 in
theorem ev_bits {E : kv_V} {d : Nat} {g : kv_S} {w : kv_W} (n : Nat) (hn : n < 256) : kv_ev E (d + 1) 134 [.int (nI n)] (kv_wd g w) (some (.int (kx_bcn (nI n)))) (kv_wd g w) := by
  refine kx_ev (d := d + 0) (by decide) (Nat.le_of_ble_eq_true rfl) ?_
  refine kx_st 0 (pc' := 0) (L' := [some (.int (nI n)), none, none]) (st' := []) (h' := kv_wd g w) rfl ?_
  refine kx_st 4 (pc' := 4) (L' := [some (.int (nI n)), some (.int 0), some (.int (nI n))]) (st' := []) (h' := kv_wd g w) rfl ?_
  exact lp_bits (nI n) 9 (nI n) 0 _ (kx_bs_ok n hn) ⟨by rw [show 0 + kx_bcn (nI n) = kx_bcn (nI n) by grind], rfl⟩
/-- a common divisor of a and 10: both ways of finding it -/
def kx_cd (a : Int32) : Nat → Int32 → Int32
  | 0, _ => 1
  | f + 1, x => if x ≤ 1 then 1 else if a % x = 0 ∧ 10 % x = 0 then x else kx_cd a f (x + -1)
def kx_ec : Nat → Int32 → Int32 → Option Int32
  | 0, x, y => if y = 0 then some x else none
  | f + 1, x, y => if y = 0 then some x else kx_ec f y (x % y)
theorem kx_ec_ok : ∀ n, n < 11 → kx_ec 5 (nI n) 10 = some (kx_cd (nI n) 10 10) ∧ ¬ kx_cd (nI n) 10 10 = 0 := by decide +kernel
set_option maxRecDepth 100000 in
theorem lp_comDiv {E : kv_V} {d : Nat} {g : kv_S} {w : kv_W} (a : Int32) {P : Option Value → kv_H → Prop} : ∀ (f : Nat) (x : Int32), x ≤ nI f + 1 → ¬ x < 0 → f ≤ 10 → P (some (.int (kx_cd a f x))) (kv_wd g w) → kx_V E d 126 2 [some (.int a), some (.int 10), some (.int x)] [] (kv_wd g w) P := by
  intro f
  induction f with
  | zero =>
    intro x hx hx0 _ hP
    refine kx_st 2 (pc' := 4) (L' := [some (.int a), some (.int 10), some (.int x)]) (st' := [.int 1, .int x]) (h' := kv_wd g w) rfl ?_
    refine kx_bi (t := 27) rfl rfl (fun (h4 : x ≤ 1) => ?_) (fun (h4 : ¬ (x ≤ 1)) => ?_)
    · refine kx_st 1 (pc' := 28) (L' := [some (.int a), some (.int 10), some (.int x)]) (st' := [.int 1]) (h' := kv_wd g w) rfl ?_
      refine kx_ret (v := some (.int 1)) rfl ?_
      exact hP
    · exact absurd hx h4
  | succ f ih =>
    intro x hx hx0 hf10 hP
    have hz : ¬ x ≤ 1 → ¬ x = 0 := fun h z => h (by rw [z]; decide)
    refine kx_st 2 (pc' := 4) (L' := [some (.int a), some (.int 10), some (.int x)]) (st' := [.int 1, .int x]) (h' := kv_wd g w) rfl ?_
    refine kx_bi (t := 27) rfl rfl (fun (h4 : x ≤ 1) => ?_) (fun (h4 : ¬ (x ≤ 1)) => ?_)
    · refine kx_st 1 (pc' := 28) (L' := [some (.int a), some (.int 10), some (.int x)]) (st' := [.int 1]) (h' := kv_wd g w) rfl ?_
      refine kx_ret (v := some (.int 1)) rfl ?_
      unfold kx_cd at hP
      rw [if_pos h4] at hP
      exact hP
    · refine kx_st 0 (pc' := 7) (L' := [some (.int a), some (.int 10), some (.int x)]) (st' := []) (h' := kv_wd g w) rfl ?_
      refine kx_st 2 (pc' := 9) (L' := [some (.int a), some (.int 10), some (.int x)]) (st' := [.int x, .int a]) (h' := kv_wd g w) rfl ?_
      refine kx_rm rfl (hz h4) ?_
      refine kx_bc (t := 21) rfl rfl (fun (h10 : ¬ a % x = 0) => ?_) (fun (h10 : ¬ (¬ a % x = 0)) => ?_)
      · refine kx_st 2 (pc' := 2) (L' := [some (.int a), some (.int 10), some (.int (x + (-1)))]) (st' := []) (h' := kv_wd g w) rfl ?_
        unfold kx_cd at hP
        rw [if_neg h4, if_neg (fun z => h10 z.1)] at hP
        refine ih _ ?_ ?_ (by omega) hP
        · have e : (x + -1).toInt = x.toInt - 1 := by
            have h1 : ¬ x.toInt ≤ 1 := fun z => h4 (Int32.le_iff_toInt_le.mpr z)
            have h2 := Int32.toInt_lt x
            rw [Int32.toInt_add, show (-1 : Int32).toInt = -1 from rfl]
            simp only [Int.bmod]
            omega
          have e2 : (nI (f + 1) + 1).toInt = (f : Int) + 2 := by rw [← nI_succ, nI_toInt (by omega)]; omega
          have e3 : (nI f + 1).toInt = (f : Int) + 1 := by rw [← nI_succ, nI_toInt (by omega)]; omega
          rw [Int32.le_iff_toInt_le] at hx ⊢
          rw [e2] at hx
          rw [e, e3]
          omega
        · have h1 : ¬ x.toInt ≤ 1 := fun z => h4 (Int32.le_iff_toInt_le.mpr z)
          have h2 := Int32.toInt_lt x
          rw [Int32.lt_iff_toInt_lt, Int32.toInt_add, show (-1 : Int32).toInt = -1 from rfl, show (0 : Int32).toInt = 0 from rfl]
          simp only [Int.bmod]
          omega
      · refine kx_st 0 (pc' := 13) (L' := [some (.int a), some (.int 10), some (.int x)]) (st' := []) (h' := kv_wd g w) rfl ?_
        refine kx_st 2 (pc' := 15) (L' := [some (.int a), some (.int 10), some (.int x)]) (st' := [.int x, .int 10]) (h' := kv_wd g w) rfl ?_
        refine kx_rm rfl (hz h4) ?_
        refine kx_bc (t := 21) rfl rfl (fun (h16 : ¬ 10 % x = 0) => ?_) (fun (h16 : ¬ (¬ 10 % x = 0)) => ?_)
        · refine kx_st 2 (pc' := 2) (L' := [some (.int a), some (.int 10), some (.int (x + (-1)))]) (st' := []) (h' := kv_wd g w) rfl ?_
          unfold kx_cd at hP
          rw [if_neg h4, if_neg (fun z => h16 z.2)] at hP
          refine ih _ ?_ ?_ (by omega) hP
          · have e : (x + -1).toInt = x.toInt - 1 := by
              have h1 : ¬ x.toInt ≤ 1 := fun z => h4 (Int32.le_iff_toInt_le.mpr z)
              have h2 := Int32.toInt_lt x
              rw [Int32.toInt_add, show (-1 : Int32).toInt = -1 from rfl]
              simp only [Int.bmod]
              omega
            have e2 : (nI (f + 1) + 1).toInt = (f : Int) + 2 := by rw [← nI_succ, nI_toInt (by omega)]; omega
            have e3 : (nI f + 1).toInt = (f : Int) + 1 := by rw [← nI_succ, nI_toInt (by omega)]; omega
            rw [Int32.le_iff_toInt_le] at hx ⊢
            rw [e2] at hx
            rw [e, e3]
            omega
          · have h1 : ¬ x.toInt ≤ 1 := fun z => h4 (Int32.le_iff_toInt_le.mpr z)
            have h2 := Int32.toInt_lt x
            rw [Int32.lt_iff_toInt_lt, Int32.toInt_add, show (-1 : Int32).toInt = -1 from rfl, show (0 : Int32).toInt = 0 from rfl]
            simp only [Int.bmod]
            omega
        · refine kx_st 0 (pc' := 19) (L' := [some (.int a), some (.int 10), some (.int x)]) (st' := []) (h' := kv_wd g w) rfl ?_
          refine kx_st 1 (pc' := 20) (L' := [some (.int a), some (.int 10), some (.int x)]) (st' := [.int x]) (h' := kv_wd g w) rfl ?_
          refine kx_ret (v := some (.int x)) rfl ?_
          unfold kx_cd at hP
          rw [if_neg h4, if_pos ⟨Classical.not_not.mp h10, Classical.not_not.mp h16⟩] at hP
          exact hP
set_option maxRecDepth 100000 in
theorem ev_comDiv {E : kv_V} {d : Nat} {g : kv_S} {w : kv_W} (a : Int32) : kv_ev E (d + 1) 126 [.int a, .int 10] (kv_wd g w) (some (.int (kx_cd a 10 10))) (kv_wd g w) := by
  refine kx_ev (d := d + 0) (by decide) (Nat.le_of_ble_eq_true rfl) ?_
  refine kx_st 0 (pc' := 0) (L' := [some (.int a), some (.int 10), none]) (st' := []) (h' := kv_wd g w) rfl ?_
  refine kx_st 2 (pc' := 2) (L' := [some (.int a), some (.int 10), some (.int 10)]) (st' := []) (h' := kv_wd g w) rfl ?_
  exact lp_comDiv a 10 10 (by decide) (by decide) (by omega) ⟨rfl, rfl⟩
set_option maxRecDepth 100000 in
theorem lp_divisor {E : kv_V} {d : Nat} {g : kv_S} {w : kv_W} (a0 b0 : Int32) {P : Option Value → kv_H → Prop} : ∀ (f : Nat) (x y r : Int32) (x4 : Option Value), kx_ec f x y = some r → P (some (.int r)) (kv_wd g w) → kx_V E d 198 4 [some (.int a0), some (.int b0), some (.int x), some (.int y), x4] [] (kv_wd g w) P := by
  intro f
  induction f with
  | zero =>
    intro x y r x4 hr hP
    have hx : y = 0 ∧ r = x := by
      unfold kx_ec at hr
      split at hr
      · rename_i h; cases hr; exact ⟨h, rfl⟩
      · cases hr
    refine kx_st 1 (pc' := 5) (L' := [some (.int a0), some (.int b0), some (.int x), some (.int y), x4]) (st' := [.int y]) (h' := kv_wd g w) rfl ?_
    refine kx_bc (t := 21) rfl rfl (fun (h5 : y = 0) => ?_) (fun (h5 : ¬ (y = 0)) => ?_)
    · refine kx_st 1 (pc' := 22) (L' := [some (.int a0), some (.int b0), some (.int x), some (.int y), x4]) (st' := [.int x]) (h' := kv_wd g w) rfl ?_
      refine kx_ret (v := some (.int x)) rfl ?_
      rw [hx.2] at hP
      exact hP
    · exact absurd hx.1 h5
  | succ f ih =>
    intro x y r x4 hr hP
    refine kx_st 1 (pc' := 5) (L' := [some (.int a0), some (.int b0), some (.int x), some (.int y), x4]) (st' := [.int y]) (h' := kv_wd g w) rfl ?_
    refine kx_bc (t := 21) rfl rfl (fun (h5 : y = 0) => ?_) (fun (h5 : ¬ (y = 0)) => ?_)
    · refine kx_st 1 (pc' := 22) (L' := [some (.int a0), some (.int b0), some (.int x), some (.int y), x4]) (st' := [.int x]) (h' := kv_wd g w) rfl ?_
      refine kx_ret (v := some (.int x)) rfl ?_
      unfold kx_ec at hr
      rw [if_pos h5] at hr
      cases hr
      exact hP
    · refine kx_st 0 (pc' := 8) (L' := [some (.int a0), some (.int b0), some (.int x), some (.int y), x4]) (st' := []) (h' := kv_wd g w) rfl ?_
      refine kx_st 2 (pc' := 10) (L' := [some (.int a0), some (.int b0), some (.int x), some (.int y), x4]) (st' := [.int y, .int x]) (h' := kv_wd g w) rfl ?_
      refine kx_rm rfl h5 ?_
      refine kx_st 6 (pc' := 4) (L' := [some (.int a0), some (.int b0), some (.int y), some (.int (x % y)), some (.int (x % y))]) (st' := []) (h' := kv_wd g w) rfl ?_
      unfold kx_ec at hr
      rw [if_neg h5] at hr
      exact ih _ _ r _ hr hP
set_option maxRecDepth 100000 in
theorem ev_divisor {E : kv_V} {d : Nat} {g : kv_S} {w : kv_W} (n : Nat) (hn : n < 11) : kv_ev E (d + 1) 198 [.int (nI n), .int 10] (kv_wd g w) (some (.int (kx_cd (nI n) 10 10))) (kv_wd g w) := by
  refine kx_ev (d := d + 0) (by decide) (Nat.le_of_ble_eq_true rfl) ?_
  refine kx_st 0 (pc' := 0) (L' := [some (.int (nI n)), some (.int 10), none, none, none]) (st' := []) (h' := kv_wd g w) rfl ?_
  refine kx_st 4 (pc' := 4) (L' := [some (.int (nI n)), some (.int 10), some (.int (nI n)), some (.int 10), none]) (st' := []) (h' := kv_wd g w) rfl ?_
  exact lp_divisor (nI n) 10 5 (nI n) 10 _ none (kx_ec_ok n hn).1 ⟨rfl, rfl⟩
set_option maxRecDepth 100000 in
theorem ev_canNow {E : kv_V} {d : Nat} {g : kv_S} {w : kv_W} {F0 F1 : kx_FF} {s t m : Nat} {K : Nat → Nat → Int32} (hX : kx_X F0 F1 s t m K g) (hw : kv_qok w) (q : kx_Q) (hq : kx_hq (g 3) (g 4) (g 2 2) q) (hqb : kx_qb q) (k : Nat) (hkm : k < m) (hK : kx_K s k (K k) (K k)) (p : Int32) (a b : Nat) (ha : a < s) (hb : b < s) (e10 : p / 10 = nI a) (e11 : p % 10 = nI b) : ∃ g' : kv_S, kv_ev E (d + 9) 128 [.ref 0, .ref (14 + k), .int p] (kv_wd g w) (some (.int (kx_b (kx_fr K k ∧ kx_cn F1 t q (K k) a b)))) (kv_wd g' w) ∧ ∀ b, b ≠ 8 → b ≠ 11 → b ≠ 44 → b ≠ 45 → b ≠ 46 → g' b = g b := by
  have hk : k < 8 := by have := hX.1.2.2.2; omega
  obtain ⟨v, hf, he, rfl, g', rfl, hh⟩ := kx_evP (E := E) (d := d + 8) (y := 128) (h := kv_wd g w) (as := [.ref 0, .ref (14 + k), .int p]) (P := fun v h => v = some (.int (kx_b (kx_fr K k ∧ kx_cn F1 t q (K k) a b))) ∧ ∃ g' : kv_S, h = kv_wd g' w ∧ ∀ b, b ≠ 8 → b ≠ 11 → b ≠ 44 → b ≠ 45 → b ≠ 46 → g' b = g b) (by decide) (Nat.le_of_ble_eq_true rfl) (by
    refine kx_st 0 (pc' := 0) (L' := [some (.ref 0), some (.ref (14 + k)), some (.int p)]) (st' := []) (h' := kv_wd g w) rfl ?_
    refine kx_st 5 (pc' := 9) (L' := [some (.ref 0), some (.ref (14 + k)), some (.int p)]) (st' := [.int 0, .ref 1, .ref 43]) (h' := kv_wd g w) rfl ?_
    obtain ⟨g9, e9, q9, r9⟩ := ev_goBehind (E := E) (d := d) (w := w) hX q hq 0 (by omega)
    have X9 : kx_X F0 F1 s t m K g9 := kx_X_cg (fun b hb => r9 b (by omega) (by omega) (by omega) (by omega)) hX
    refine kx_call (z := 60) (as := [.ref 43, .ref 1, .int 0]) (rest := []) (v := none) (h1 := kv_wd g9 w) rfl e9 ?_
    refine kx_st 0 (pc' := 12) (L' := [some (.ref 0), some (.ref (14 + k)), some (.int p)]) (st' := []) (h' := kv_wd g9 w) rfl ?_
    refine kx_st 3 (pc' := 17) (L' := [some (.ref 0), some (.ref (14 + k)), some (.int p)]) (st' := [.ref (14 + k), .ref 1]) (h' := kv_wd g9 w) rfl ?_
    refine kx_call (z := 22) (as := [.ref 1, .ref (14 + k)]) (rest := []) (v := some (.int (kx_b (¬ kx_fr K k)))) (h1 := kv_wd g9 w) rfl (ev_isHeld (d := d + 6) X9 hw k hkm hK) ?_
    refine kx_st 0 (pc' := 20) (L' := [some (.ref 0), some (.ref (14 + k)), some (.int p)]) (st' := [.int (kx_b (¬ kx_fr K k))]) (h' := kv_wd g9 w) rfl ?_
    refine kx_bn (t := 50) rfl rfl (fun (h20 : (¬ kx_fr K k)) => ?_) (fun (h20 : ¬ (¬ kx_fr K k)) => ?_)
    · refine kx_st 1 (pc' := 51) (L' := [some (.ref 0), some (.ref (14 + k)), some (.int p)]) (st' := [.int 0]) (h' := kv_wd g9 w) rfl ?_
      refine kx_ret (v := some (.int 0)) rfl ?_
      exact ⟨kx_l0 (fun z => h20 z.1), _, rfl, fun b h8 h11 h44 h45 h46 => r9 b h8 h44 h45 h46⟩
    · refine kx_st 0 (pc' := 23) (L' := [some (.ref 0), some (.ref (14 + k)), some (.int p)]) (st' := []) (h' := kv_wd g9 w) rfl ?_
      refine kx_st 7 (pc' := 35) (L' := [some (.ref 0), some (.ref (14 + k)), some (.int p)]) (st' := [.int 10, .int p, .ref (14 + k), .ref 1, .ref 43]) (h' := kv_wd g9 w) rfl ?_
      refine kx_dv rfl (by decide) ?_
      refine kx_st 2 (pc' := 39) (L' := [some (.ref 0), some (.ref (14 + k)), some (.int p)]) (st' := [.int 10, .int p, .int (p / 10), .ref (14 + k), .ref 1, .ref 43]) (h' := kv_wd g9 w) rfl ?_
      refine kx_rm rfl (by decide) ?_
      obtain ⟨f40, e40⟩ := ev_canWere (E := E) (d := d) (w := w) X9 q q9 hqb k hkm hK a b ha hb
      refine kx_call (z := 63) (as := [.ref 43, .ref 1, .ref (14 + k), .int (p / 10), .int (p % 10)]) (rest := []) (v := some (.int (kx_b (kx_cn F1 t q (K k) a b)))) (h1 := kv_wd (kv_uf g9 11 f40) w) rfl (by rw [e10, e11]; exact e40) ?_
      refine kx_st 0 (pc' := 43) (L' := [some (.ref 0), some (.ref (14 + k)), some (.int p)]) (st' := [.int (kx_b (kx_cn F1 t q (K k) a b))]) (h' := kv_wd (kv_uf g9 11 f40) w) rfl ?_
      refine kx_be (t := 50) rfl rfl (fun (h43 : ¬ (kx_cn F1 t q (K k) a b)) => ?_) (fun (h43 : (kx_cn F1 t q (K k) a b)) => ?_)
      · refine kx_st 1 (pc' := 51) (L' := [some (.ref 0), some (.ref (14 + k)), some (.int p)]) (st' := [.int 0]) (h' := kv_wd (kv_uf g9 11 f40) w) rfl ?_
        refine kx_ret (v := some (.int 0)) rfl ?_
        exact ⟨kx_l0 (fun z => h43 z.2), _, rfl, fun b h8 h11 h44 h45 h46 => (kv_uf_ne h11).trans (r9 b h8 h44 h45 h46)⟩
      · refine kx_st 0 (pc' := 46) (L' := [some (.ref 0), some (.ref (14 + k)), some (.int p)]) (st' := []) (h' := kv_wd (kv_uf g9 11 f40) w) rfl ?_
        refine kx_st 2 (pc' := 51) (L' := [some (.ref 0), some (.ref (14 + k)), some (.int p)]) (st' := [.int 1]) (h' := kv_wd (kv_uf g9 11 f40) w) rfl ?_
        refine kx_ret (v := some (.int 1)) rfl ?_
        exact ⟨kx_l1 ⟨Classical.not_not.mp h20, h43⟩, _, rfl, fun b h8 h11 h44 h45 h46 => (kv_uf_ne h11).trans (r9 b h8 h44 h45 h46)⟩)
  exact ⟨g', he, hh⟩
