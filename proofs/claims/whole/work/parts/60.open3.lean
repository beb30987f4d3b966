/-! PAIRS: open, miss, keep -/
def kx_OW (F0 F1 : kx_FF) (s t m : Nat) (K : Nat → Nat → Int32) (q : kx_Q) (n tt : Nat) : Nat := kx_mk (kx_und (kx_T K) (fun j => kx_wy F1 (kx_yn F0 s t n q) (K j) s tt) (fun j => K j 6)) m
theorem kx_OW_lt {F0 F1 : kx_FF} {s t m : Nat} {K : Nat → Nat → Int32} {q : kx_Q} {n tt : Nat} (m8 : m ≤ 8) : kx_OW F0 F1 s t m K q n tt < 256 := kx_256 (kx_mk_lt _ m) m8
theorem kx_yn_cg {F : kx_FF} {s t tt : Nat} {q : kx_Q} {p : Nat} (hp : p < s) (h1 : tt.testBit p = true) (h2 : t.testBit p = true) : ∀ n, (kx_yn F s tt n q).1 p = (kx_yn F s t n q).1 p ∧ (kx_yn F s tt n q).2.1 p = (kx_yn F s t n q).2.1 p := by
  intro n
  induction n with
  | zero => exact ⟨rfl, rfl⟩
  | succ n ih =>
    have ey : (kx_yn F s tt n q).2.2 = (kx_yn F s t n q).2.2 := by rw [kx_yn_y, kx_yn_y]
    constructor
    · show kx_yi F tt 0 (nI (kx_yn F s tt n q).2.2 % 10) (kx_yn F s tt n q).1 s p = kx_yi F t 0 (nI (kx_yn F s t n q).2.2 % 10) (kx_yn F s t n q).1 s p
      unfold kx_yi
      rw [if_pos ⟨hp, h1⟩, if_pos ⟨hp, h2⟩, ey, ih.1]
    · show kx_yi F tt 1 (nI (kx_yn F s tt n q).2.2 % 10) (kx_yn F s tt n q).2.1 s p = kx_yi F t 1 (nI (kx_yn F s t n q).2.2 % 10) (kx_yn F s t n q).2.1 s p
      unfold kx_yi
      rw [if_pos ⟨hp, h1⟩, if_pos ⟨hp, h2⟩, ey, ih.2]
theorem kx_wy_cg {F0 F1 : kx_FF} {s t tt n : Nat} {q : kx_Q} {K : Nat → Int32} (s6 : s ≤ 6) (hs : ∀ p, p < s → tt.testBit p = true → t.testBit p = true) : kx_wy F1 (kx_yn F0 s tt n q) K s tt = kx_wy F1 (kx_yn F0 s t n q) K s tt := by
  have key : ∀ a b, a < s → b < s → tt.testBit a = true → tt.testBit b = true → (kx_lsn F1 (kx_yn F0 s tt n q) K a b ↔ kx_lsn F1 (kx_yn F0 s t n q) K a b) := by
    intro a b ha hb h1 h2
    have e1 := (kx_yn_cg (F := F0) (q := q) ha h1 (hs a ha h1) n).2
    have e2 := (kx_yn_cg (F := F0) (q := q) hb h2 (hs b hb h2) n).1
    have ey : (kx_yn F0 s tt n q).2.2 = (kx_yn F0 s t n q).2.2 := by rw [kx_yn_y, kx_yn_y]
    have em : kx_mq (kx_yn F0 s tt n q) K a b = kx_mq (kx_yn F0 s t n q) K a b := by unfold kx_mq; rw [e1, e2]
    unfold kx_lsn
    rw [em, ey]
  have : kx_wy F1 (kx_yn F0 s tt n q) K s tt = true ↔ kx_wy F1 (kx_yn F0 s t n q) K s tt = true := by
    rw [kx_wy_i s6, kx_wy_i s6]
    constructor
    · rintro ⟨a, b, h1, h2, h3, h4, h5, h6⟩; exact ⟨a, b, h1, h2, h3, h4, h5, (key a b h1 h2 h4 h5).mp h6⟩
    · rintro ⟨a, b, h1, h2, h3, h4, h5, h6⟩; exact ⟨a, b, h1, h2, h3, h4, h5, (key a b h1 h2 h4 h5).mpr h6⟩
  cases h1 : kx_wy F1 (kx_yn F0 s tt n q) K s tt <;> cases h2 : kx_wy F1 (kx_yn F0 s t n q) K s tt <;> simp_all
theorem kx_2p : ∀ p, p < 6 → (1 : Int32) <<< (nI p &&& 31) = nI (2 ^ p) ∧ 2 ^ p < 64 := by decide +kernel
theorem kx_2pb : ∀ p, p < 6 → ∀ x, x < 6 → (2 ^ p).testBit x = (x == p) := by decide +kernel
theorem kx_bcn0 : ∀ n, n < 256 → 0 ≤ kx_bcn (nI n) := by decide +kernel
set_option maxRecDepth 100000 in
theorem lp_but {E : kv_V} {d : Nat} {g : kv_S} {w : kv_W} (gm n s : Nat) (hg : gm < 64) (s6 : s ≤ 6) (b2 : g 66 3 = nI s) {P : Option Value → kv_H → Prop} (hP : ∀ g1 : kv_S, ((∀ j, g1 66 j = if 20 ≤ j ∧ j < 20 + s ∧ gm.testBit (j - 20) = true then 0 else g 66 j) ∧ ∀ b, b ≠ 66 → g1 b = g b) → kx_V E d 188 61 [some (.ref 65), some (.int (nI gm)), some (.int (nI n)), some (.int (nI s))] [] (kv_wd g1 w) P) : ∀ (nz i : Nat) (g1 : kv_S), i + nz = s → ((∀ j, g1 66 j = if 20 ≤ j ∧ j < 20 + i ∧ gm.testBit (j - 20) = true then 0 else g 66 j) ∧ ∀ b, b ≠ 66 → g1 b = g b) → kx_V E d 188 14 [some (.ref 65), some (.int (nI gm)), some (.int (nI n)), some (.int (nI i))] [] (kv_wd g1 w) P := by
  intro nz
  induction nz with
  | zero =>
    intro i g1 hi h1
    have hkN : i = s := by omega
    have b3 : g1 66 3 = nI s := by rw [h1.1 3, if_neg (by omega)]; exact b2
    refine kx_st 4 (pc' := 20) (L' := [some (.ref 65), some (.int (nI gm)), some (.int (nI n)), some (.int (nI i))]) (st' := [.int 3, .ref 66, .int (nI i)]) (h' := kv_wd g1 w) rfl ?_
    refine kx_ia (k := 3) rfl rfl (by decide) rfl (by decide) (by decide) ?_
    refine kx_bi (t := 61) rfl rfl (fun (h21 : g1 66 3 ≤ nI i) => ?_) (fun (h21 : ¬ (g1 66 3 ≤ nI i)) => ?_)
    · subst hkN
      exact hP g1 h1
    · exact absurd (by rw [b3]; exact nI_le (by omega) (by omega)) h21
  | succ nz ih =>
    intro i g1 hi h1
    have b3 : g1 66 3 = nI s := by rw [h1.1 3, if_neg (by omega)]; exact b2
    have tb := kx_tb gm hg i (by omega)
    refine kx_st 4 (pc' := 20) (L' := [some (.ref 65), some (.int (nI gm)), some (.int (nI n)), some (.int (nI i))]) (st' := [.int 3, .ref 66, .int (nI i)]) (h' := kv_wd g1 w) rfl ?_
    refine kx_ia (k := 3) rfl rfl (by decide) rfl (by decide) (by decide) ?_
    refine kx_bi (t := 61) rfl rfl (fun (h21 : g1 66 3 ≤ nI i) => ?_) (fun (h21 : ¬ (g1 66 3 ≤ nI i)) => ?_)
    · exact absurd h21 (by rw [b3]; exact nI_ge (a := i) (b := s) (by omega) (by omega))
    · refine kx_st 0 (pc' := 24) (L' := [some (.ref 65), some (.int (nI gm)), some (.int (nI n)), some (.int (nI i))]) (st' := []) (h' := kv_wd g1 w) rfl ?_
      refine kx_st 11 (pc' := 38) (L' := [some (.ref 65), some (.int (nI gm)), some (.int (nI n)), some (.int (nI i))]) (st' := [.int 1, .int (((nI gm) >>> ((nI i) &&& 31)) &&& 1), .int (20 + (nI i)), .ref 66]) (h' := kv_wd g1 w) rfl ?_
      refine kx_bi (t := 45) rfl rfl (fun (h38 : ¬ ((nI gm) >>> ((nI i) &&& 31)) &&& 1 = 1) => ?_) (fun (h38 : ¬ (¬ ((nI gm) >>> ((nI i) &&& 31)) &&& 1 = 1)) => ?_)
      · refine kx_st 5 (pc' := 53) (L' := [some (.ref 65), some (.int (nI gm)), some (.int (nI n)), some (.int (nI i))]) (st' := [.int (20 + (nI i)), .ref 66, .int (20 + (nI i)), .ref 66]) (h' := kv_wd g1 w) rfl ?_
        refine kx_ia (k := (20 + i)) rfl rfl (by decide) (kx_nadd 20 i) (by omega) (by decide) ?_
        refine kx_is (k := (20 + i)) rfl rfl (by decide) (kx_nadd 20 i) (by omega) (by decide) ?_
        refine kx_st 2 (pc' := 14) (L' := [some (.ref 65), some (.int (nI gm)), some (.int (nI n)), some (.int ((nI i) + 1))]) (st' := []) (h' := kv_wd (kv_up g1 66 (20 + i) (g1 66 (20 + i))) w) rfl ?_
        rw [← nI_succ]
        refine ih (i + 1) _ (by omega) ⟨fun j => ?_, fun b hb => (kv_up_ne hb).trans (h1.2 b hb)⟩
        rw [kv_up_at]
        by_cases hj : j = 20 + i
        · rw [hj, kx_ups, if_neg (fun z => h38 (tb.mpr (by have := z.2.2; rw [show 20 + i - 20 = i by omega] at this; exact this))), h1.1 (20 + i), if_neg (by omega)]
        · rw [kx_upn hj, h1.1 j]
          have e : (20 ≤ j ∧ j < 20 + i ∧ gm.testBit (j - 20) = true) ↔ (20 ≤ j ∧ j < 20 + (i + 1) ∧ gm.testBit (j - 20) = true) := ⟨fun z => ⟨z.1, by omega, z.2.2⟩, fun z => ⟨z.1, by omega, z.2.2⟩⟩
          by_cases hc : 20 ≤ j ∧ j < 20 + i ∧ gm.testBit (j - 20) = true
          · rw [if_pos hc, if_pos (e.mp hc)]
          · rw [if_neg hc, if_neg (fun z => hc (e.mpr z))]
      · refine kx_st 0 (pc' := 41) (L' := [some (.ref 65), some (.int (nI gm)), some (.int (nI n)), some (.int (nI i))]) (st' := [.int (20 + (nI i)), .ref 66]) (h' := kv_wd g1 w) rfl ?_
        refine kx_st 2 (pc' := 54) (L' := [some (.ref 65), some (.int (nI gm)), some (.int (nI n)), some (.int (nI i))]) (st' := [.int 0, .int (20 + (nI i)), .ref 66]) (h' := kv_wd g1 w) rfl ?_
        refine kx_is (k := (20 + i)) rfl rfl (by decide) (kx_nadd 20 i) (by omega) (by decide) ?_
        refine kx_st 2 (pc' := 14) (L' := [some (.ref 65), some (.int (nI gm)), some (.int (nI n)), some (.int ((nI i) + 1))]) (st' := []) (h' := kv_wd (kv_up g1 66 (20 + i) 0) w) rfl ?_
        rw [← nI_succ]
        refine ih (i + 1) _ (by omega) ⟨fun j => ?_, fun b hb => (kv_up_ne hb).trans (h1.2 b hb)⟩
        rw [kv_up_at]
        by_cases hj : j = 20 + i
        · rw [hj, kx_ups, if_pos ⟨by omega, by omega, by rw [show 20 + i - 20 = i by omega]; exact tb.mp (Classical.not_not.mp h38)⟩]
        · rw [kx_upn hj, h1.1 j]
          have e : (20 ≤ j ∧ j < 20 + i ∧ gm.testBit (j - 20) = true) ↔ (20 ≤ j ∧ j < 20 + (i + 1) ∧ gm.testBit (j - 20) = true) := ⟨fun z => ⟨z.1, by omega, z.2.2⟩, fun z => ⟨z.1, by omega, z.2.2⟩⟩
          by_cases hc : 20 ≤ j ∧ j < 20 + i ∧ gm.testBit (j - 20) = true
          · rw [if_pos hc, if_pos (e.mp hc)]
          · rw [if_neg hc, if_neg (fun z => hc (e.mpr z))]
set_option maxRecDepth 100000 in
theorem ev_openBut {E : kv_V} {d : Nat} {g : kv_S} {w : kv_W} {F0 F1 : kx_FF} {s t m : Nat} {K : Nat → Nat → Int32} (hKB : ∀ k, k < m → kx_K s k (K k) (K k)) (hM : kx_M F0 F1 s t m K (g 66)) (q0 : kx_Q) (hq : kx_hmq (g 66) q0) (gm n : Nat) (hg : gm < 64) (n60 : n ≤ 60) (tt : Nat) (htl : tt < 2 ^ s) (htt : ∀ p, p < s → tt.testBit p = (t.testBit p && !gm.testBit p)) : ∃ g' : kv_S, kv_ev E (d + 105) 188 [.ref 65, .int (nI gm), .int (nI n)] (kv_wd g w) (some (.int (nI (kx_OW F0 F1 s t m K q0 n tt)))) (kv_wd g' w) ∧ (∀ b, b ≠ 65 → b ≠ 66 → b ≠ 68 → g' b = g b) ∧ (∀ z, (z < 7 ∨ 14 < z) → g' 65 z = g 65 z) ∧ ∀ j, j < 268 → g' 66 j = g 66 j := by
  obtain ⟨v, hf, he, rfl, g', rfl, hh⟩ := kx_evP (E := E) (d := d + 104) (y := 188) (h := kv_wd g w) (as := [.ref 65, .int (nI gm), .int (nI n)]) (P := fun v h => v = some (.int (nI (kx_OW F0 F1 s t m K q0 n tt))) ∧ ∃ g' : kv_S, h = kv_wd g' w ∧ (∀ b, b ≠ 65 → b ≠ 66 → b ≠ 68 → g' b = g b) ∧ (∀ z, (z < 7 ∨ 14 < z) → g' 65 z = g 65 z) ∧ ∀ j, j < 268 → g' 66 j = g 66 j) (by decide) (Nat.le_of_ble_eq_true rfl) (by
    refine kx_st 0 (pc' := 0) (L' := [some (.ref 65), some (.int (nI gm)), some (.int (nI n)), none]) (st' := []) (h' := kv_wd g w) rfl ?_
    refine kx_st 5 (pc' := 9) (L' := [some (.ref 65), some (.int (nI gm)), some (.int (nI n)), none]) (st' := [.ref 68, .ref 66, .ref 65]) (h' := kv_wd g w) rfl ?_
    refine kx_call (z := 133) (as := [.ref 65, .ref 66, .ref 68]) (rest := []) (v := none) (h1 := kv_wd (kv_uf g 68 (kx_mv (g 66) (g 68) 268)) w) rfl (ev_moveAll (d := d + 103) (a := 66) (b := 68) rfl rfl (by decide) (by decide) (by decide)) ?_
    refine kx_st 0 (pc' := 12) (L' := [some (.ref 65), some (.int (nI gm)), some (.int (nI n)), none]) (st' := []) (h' := kv_wd (kv_uf g 68 (kx_mv (g 66) (g 68) 268)) w) rfl ?_
    refine kx_st 2 (pc' := 14) (L' := [some (.ref 65), some (.int (nI gm)), some (.int (nI n)), some (.int 0)]) (st' := []) (h' := kv_wd (kv_uf g 68 (kx_mv (g 66) (g 68) 268)) w) rfl ?_
    refine lp_but gm n s hg hM.1.2.1 (g := kv_uf g 68 (kx_mv (g 66) (g 68) 268)) hM.2.1.1 (fun g14 r14 => ?_) s 0 _ (by omega) ⟨fun j => by rw [if_neg (by omega)], fun _ _ => rfl⟩
    refine kx_st 0 (pc' := 61) (L' := [some (.ref 65), some (.int (nI gm)), some (.int (nI n)), some (.int (nI s))]) (st' := []) (h' := kv_wd g14 w) rfl ?_
    refine kx_st 2 (pc' := 63) (L' := [some (.ref 65), some (.int (nI gm)), some (.int (nI n)), some (.int (nI s))]) (st' := [.int (nI n), .ref 65]) (h' := kv_wd g14 w) rfl ?_
    have f14 : ∀ j, (j < 20 ∨ 26 ≤ j) → g14 66 j = g 66 j := fun j hj => by rw [r14.1 j, if_neg (by have := hM.1.2.1; omega)]; rfl
    have M14 : kx_M F0 F1 s tt m K (g14 66) := by
      refine kx_M_t htl (fun j j1 hj => f14 j (by omega)) (fun p hp => ?_) hM
      have hs6 := hM.1.2.1
      rw [r14.1 (20 + p), show 20 + p - 20 = p by omega, htt p hp]
      have z : (kv_uf g 68 (kx_mv (g 66) (g 68) 268)) 66 (20 + p) = if t.testBit p = true then 1 else 0 := hM.2.2.1 p hp
      rw [z]
      by_cases hgp : gm.testBit p = true
      · rw [if_pos ⟨by omega, by omega, hgp⟩, hgp]; simp
      · rw [if_neg (fun y => hgp y.2.2)]; simp at hgp; rw [hgp]; simp
    obtain ⟨g63, e63, q63, x63, y63, z63⟩ := ev_passes (E := E) (d := d + 2) (g := g14) (w := w) M14 q0 ⟨fun p hp => ⟨(f14 _ (by omega)).trans (hq.1 p hp).1, (f14 _ (by omega)).trans (hq.1 p hp).2⟩, (f14 0 (by omega)).trans hq.2⟩ n n60
    refine kx_call (z := 179) (as := [.ref 65, .int (nI n)]) (rest := []) (v := none) (h1 := kv_wd g63 w) rfl e63 ?_
    refine kx_st 0 (pc' := 66) (L' := [some (.ref 65), some (.int (nI gm)), some (.int (nI n)), some (.int (nI s))]) (st' := []) (h' := kv_wd g63 w) rfl ?_
    refine kx_st 1 (pc' := 67) (L' := [some (.ref 65), some (.int (nI gm)), some (.int (nI n)), some (.int (nI s))]) (st' := [.ref 65]) (h' := kv_wd g63 w) rfl ?_
    obtain ⟨g67, e67, y67, z67⟩ := ev_undoesAll (E := E) (d := d + 1) (g := g63) (w := w) hKB (kx_M_cg (fun j hj j0 _ => x63 j j0 hj) M14) (kx_yn F0 s tt n q0) q63
    have eW : (fun j => kx_wy F1 (kx_yn F0 s tt n q0) (K j) s tt) = fun j => kx_wy F1 (kx_yn F0 s t n q0) (K j) s tt := funext (fun j => kx_wy_cg hM.1.2.1 (fun p hp h => by rw [htt p hp, Bool.and_eq_true] at h; exact h.1))
    rw [eW] at e67
    refine kx_call (z := 187) (as := [.ref 65]) (rest := []) (v := some (.int (nI (kx_OW F0 F1 s t m K q0 n tt)))) (h1 := kv_wd g67 w) rfl e67 ?_
    refine kx_st 0 (pc' := 70) (L' := [some (.ref 65), some (.int (nI gm)), some (.int (nI n)), some (.int (nI s))]) (st' := [.int (nI (kx_OW F0 F1 s t m K q0 n tt))]) (h' := kv_wd g67 w) rfl ?_
    refine kx_st 6 (pc' := 80) (L' := [some (.ref 65), some (.int (nI gm)), some (.int (nI n)), some (.int (nI (kx_OW F0 F1 s t m K q0 n tt)))]) (st' := [.ref 66, .ref 68, .ref 65]) (h' := kv_wd g67 w) rfl ?_
    refine kx_call (z := 133) (as := [.ref 65, .ref 68, .ref 66]) (rest := []) (v := none) (h1 := kv_wd (kv_uf g67 66 (kx_mv (g67 68) (g67 66) 268)) w) rfl (ev_moveAll (d := d + 103) (a := 68) (b := 66) rfl rfl (by decide) (by decide) (by decide)) ?_
    refine kx_st 0 (pc' := 83) (L' := [some (.ref 65), some (.int (nI gm)), some (.int (nI n)), some (.int (nI (kx_OW F0 F1 s t m K q0 n tt)))]) (st' := []) (h' := kv_wd (kv_uf g67 66 (kx_mv (g67 68) (g67 66) 268)) w) rfl ?_
    refine kx_st 1 (pc' := 84) (L' := [some (.ref 65), some (.int (nI gm)), some (.int (nI n)), some (.int (nI (kx_OW F0 F1 s t m K q0 n tt)))]) (st' := [.int (nI (kx_OW F0 F1 s t m K q0 n tt))]) (h' := kv_wd (kv_uf g67 66 (kx_mv (g67 68) (g67 66) 268)) w) rfl ?_
    refine kx_ret (v := some (.int (nI (kx_OW F0 F1 s t m K q0 n tt)))) rfl ?_
    have y : ∀ b, b ≠ 65 → b ≠ 66 → g67 b = (kv_uf g 68 (kx_mv (g 66) (g 68) 268)) b := fun b b1 b2 => (y67 b b1 b2).trans ((y63 b b1 b2).trans (r14.2 b b2))
    refine ⟨rfl, _, rfl, fun b b1 b2 b3 => ?_, fun z hz => ?_, fun j hj => kx_tm_end y j hj⟩
    · rw [kv_uf_ne b2, y b b1 b2, kv_uf_ne b3]
    · exact (z67 z hz).trans ((z63 z hz).trans (congrFun (r14.2 65 (by omega)) z)))
  exact ⟨g', he, hh⟩
set_option maxRecDepth 100000 in
theorem pr_open {E : kv_V} (a : Int32) : kx_ok2 E (kx_Rl kx_L) 99 189 [.int a] := by
  intro g w i hR hi
  obtain ⟨F0, F1, s, t, m, K, hF0, hF1, hX, hM, hKB, hKe⟩ := kx_Rl_XMK hR
  obtain ⟨q0, hq0, hm0, hb0, hy0⟩ := kx_Rl_q hR
  have q := hR.1
  have b1 := hX.2.1.1
  have b2 := hM.2.1.1
  have a1 := hX.1.1
  have a2 := hX.1.2.1
  have a4 := hX.1.2.2.2
  have d1 := hX.2.1.2.2
  have d2 := hM.2.1.2
  by_cases ha : 0 ≤ a ∧ a ≤ 60
  · obtain ⟨n, hn60, rfl⟩ := kx_nIof (n := 60) ha.1 ha.2 (by omega)
    refine kx_two (by decide) (Nat.le_of_ble_eq_true rfl) (by decide) (Nat.le_of_ble_eq_true rfl) ?_
    refine kx_st 0 (pc' := 0) (L' := [some (.ref 0), some (.int (nI n))]) (st' := []) (h' := kv_wd g w) rfl ?_
    refine kx_st 2 (pc' := 3) (L' := [some (.ref 0), some (.int (nI n))]) (st' := [.int 60, .int (nI n)]) (h' := kv_wd g w) rfl ?_
    refine kx_call (z := 124) (as := [.int (nI n), .int 60]) (rest := []) (v := some (.int (kx_b (0 ≤ nI n ∧ nI n ≤ 60)))) (h1 := kv_wd g w) rfl (ev_within (d := 898) (nI n) 60) ?_
    refine kx_st 0 (pc' := 6) (L' := [some (.ref 0), some (.int (nI n))]) (st' := [.int (kx_b (0 ≤ nI n ∧ nI n ≤ 60))]) (h' := kv_wd g w) rfl ?_
    refine kx_bn (t := 15) rfl rfl (fun (h6 : (0 ≤ nI n ∧ nI n ≤ 60)) => ?_) (fun (h6 : ¬ (0 ≤ nI n ∧ nI n ≤ 60)) => ?_)
    · refine kx_st 5 (pc' := 24) (L' := [some (.ref 0), some (.int (nI n))]) (st' := [.int (nI n), .ref 1, .ref 43]) (h' := kv_wd g w) rfl ?_
      obtain ⟨gb, eg, qb, rb⟩ := ev_goBehind (E := E) (d := 891) (w := w) hX q0 hq0 n hn60
      have Xb : kx_X F0 F1 s t m K gb := kx_X_cg (fun b hb => rb b (by omega) (by omega) (by omega) (by omega)) hX
      refine kx_call (z := 60) (as := [.ref 43, .ref 1, .int (nI n)]) (rest := []) (v := none) (h1 := kv_wd gb w) rfl eg ?_
      refine kx_st 0 (pc' := 27) (L' := [some (.ref 0), some (.int (nI n))]) (st' := []) (h' := kv_wd gb w) rfl ?_
      refine kx_st 4 (pc' := 35) (L' := [some (.ref 0), some (.int (nI n))]) (st' := [.ref 1, .ref 43]) (h' := kv_wd gb w) rfl ?_
      obtain ⟨ff, wl, ef, hwl⟩ := ev_findWays (E := E) (d := 890) (g := gb) (wl0 := w.1) (w2 := w.2) Xb q.1 (kx_yn F0 s t n q0) qb (kx_qb_n hF0 hb0 n) hKB
      have Xf : kx_X F0 F1 s t m K (kv_uf gb 11 ff) := kx_X_cg (fun b hb => kv_uf_ne (by omega)) Xb
      have rf : ∀ b, b ≠ 8 → b ≠ 11 → (b < 44 ∨ 52 < b) → (kv_uf gb 11 ff) b = g b := fun b h8 h11 h4 => (kv_uf_ne h11).trans (rb b h8 (by omega) (by omega) (by omega))
      have Mf : kx_M F0 F1 s t m K ((kv_uf gb 11 ff) 66) := by rw [rf 66 (by omega) (by omega) (by omega)]; exact hM
      have mf : kx_hmq ((kv_uf gb 11 ff) 66) q0 := by rw [rf 66 (by omega) (by omega) (by omega)]; exact hm0
      have h64 : t < 64 := Nat.lt_of_lt_of_le hX.1.2.2.1 (Nat.pow_le_pow_right (by omega) a2)
      refine kx_call (z := 66) (as := [.ref 43, .ref 1]) (rest := []) (v := none) (h1 := kv_wd (kv_uf gb 11 ff) (wl, w.2)) rfl ef ?_
      refine kx_st 0 (pc' := 38) (L' := [some (.ref 0), some (.int (nI n))]) (st' := []) (h' := kv_wd (kv_uf gb 11 ff) (wl, w.2)) rfl ?_
      refine kx_st 7 (pc' := 53) (L' := [some (.ref 0), some (.int (nI n))]) (st' := [.int ((kv_uf gb 11 ff) 1 1), .ref 1, .ref 43]) (h' := kv_wd (kv_uf gb 11 ff) (wl, w.2)) rfl ?_
      refine kx_call (z := 69) (as := [.ref 43, .ref 1, .int ((kv_uf gb 11 ff) 1 1)]) (rest := []) (v := some (.int (nI (kx_OW F0 F1 s t m K q0 n t)))) (h1 := kv_wd (kv_uf gb 11 ff) (wl, w.2)) rfl (by rw [Xf.2.1.2.1]; exact ev_openWith (d := 897) (g := kv_uf gb 11 ff) (w := (wl, w.2)) Xf q.1 hKB (kx_yn F0 s t n q0) t h64 hwl q) ?_
      refine kx_st 0 (pc' := 56) (L' := [some (.ref 0), some (.int (nI n))]) (st' := [.int (nI (kx_OW F0 F1 s t m K q0 n t))]) (h' := kv_wd (kv_uf gb 11 ff) (wl, w.2)) rfl ?_
      refine kx_ret (v := some (.int (nI (kx_OW F0 F1 s t m K q0 n t)))) rfl ?_
      refine ⟨_, _, _, rfl, rfl, ?_⟩
      refine kx_st 0 (pc' := 0) (L' := [some (.ref 65), some (.int (nI n))]) (st' := []) (h' := kv_wd (kv_uf gb 11 ff) (wl, w.2)) rfl ?_
      refine kx_st 3 (pc' := 4) (L' := [some (.ref 65), some (.int (nI n))]) (st' := [.int 60, .int 0, .int (nI n)]) (h' := kv_wd (kv_uf gb 11 ff) (wl, w.2)) rfl ?_
      refine kx_call (z := 130) (as := [.int (nI n), .int 0, .int 60]) (rest := []) (v := some (.int (kx_b (0 ≤ nI n ∧ nI n ≤ 60)))) (h1 := kv_wd (kv_uf gb 11 ff) (wl, w.2)) rfl (ev_in (d := 898) (nI n) 0 60) ?_
      refine kx_st 0 (pc' := 7) (L' := [some (.ref 65), some (.int (nI n))]) (st' := [.int (kx_b (0 ≤ nI n ∧ nI n ≤ 60))]) (h' := kv_wd (kv_uf gb 11 ff) (wl, w.2)) rfl ?_
      refine kx_be (t := 19) rfl rfl (fun (m7 : ¬ (0 ≤ nI n ∧ nI n ≤ 60)) => ?_) (fun (m7 : (0 ≤ nI n ∧ nI n ≤ 60)) => ?_)
      · exact absurd ha m7
      · refine kx_st 0 (pc' := 10) (L' := [some (.ref 65), some (.int (nI n))]) (st' := []) (h' := kv_wd (kv_uf gb 11 ff) (wl, w.2)) rfl ?_
        refine kx_st 3 (pc' := 13) (L' := [some (.ref 65), some (.int (nI n))]) (st' := [.int (nI n), .int 0, .ref 65]) (h' := kv_wd (kv_uf gb 11 ff) (wl, w.2)) rfl ?_
        obtain ⟨go, eo, ro, so, to⟩ := ev_openBut (E := E) (d := 794) (g := kv_uf gb 11 ff) (w := (wl, w.2)) hKB Mf q0 mf 0 n (by omega) hn60 t hX.1.2.2.1 (fun p hp => by rw [Nat.zero_testBit]; simp)
        refine kx_call (z := 188) (as := [.ref 65, .int 0, .int (nI n)]) (rest := []) (v := some (.int (nI (kx_OW F0 F1 s t m K q0 n t)))) (h1 := kv_wd go (wl, w.2)) rfl eo ?_
        refine kx_st 0 (pc' := 16) (L' := [some (.ref 65), some (.int (nI n))]) (st' := [.int (nI (kx_OW F0 F1 s t m K q0 n t))]) (h' := kv_wd go (wl, w.2)) rfl ?_
        refine kx_st 1 (pc' := 25) (L' := [some (.ref 65), some (.int (nI n))]) (st' := [.int (nI (kx_OW F0 F1 s t m K q0 n t))]) (h' := kv_wd go (wl, w.2)) rfl ?_
        refine kx_ret (v := some (.int (nI (kx_OW F0 F1 s t m K q0 n t)))) rfl ?_
        exact ⟨rfl, _, _, rfl, kx_Rl_skip _ _ _ _ (kx_Rl_ro hR rfl (fun b h8 h11 h4 h65 h66 h68 h69 => (ro b h65 h66 h68).trans (rf b h8 h11 h4)) (fun z hz => (so z hz).trans (congrFun (rf 65 (by omega) (by omega) (by omega)) z)) (fun j hj => (to j hj).trans (congrFun (rf 66 (by omega) (by omega) (by omega)) j)))⟩
    · exact absurd ha h6
  · refine kx_two (by decide) (Nat.le_of_ble_eq_true rfl) (by decide) (Nat.le_of_ble_eq_true rfl) ?_
    refine kx_st 0 (pc' := 0) (L' := [some (.ref 0), some (.int a)]) (st' := []) (h' := kv_wd g w) rfl ?_
    refine kx_st 2 (pc' := 3) (L' := [some (.ref 0), some (.int a)]) (st' := [.int 60, .int a]) (h' := kv_wd g w) rfl ?_
    refine kx_call (z := 124) (as := [.int a, .int 60]) (rest := []) (v := some (.int (kx_b (0 ≤ a ∧ a ≤ 60)))) (h1 := kv_wd g w) rfl (ev_within (d := 898) a 60) ?_
    refine kx_st 0 (pc' := 6) (L' := [some (.ref 0), some (.int a)]) (st' := [.int (kx_b (0 ≤ a ∧ a ≤ 60))]) (h' := kv_wd g w) rfl ?_
    refine kx_bn (t := 15) rfl rfl (fun (h6 : (0 ≤ a ∧ a ≤ 60)) => ?_) (fun (h6 : ¬ (0 ≤ a ∧ a ≤ 60)) => ?_)
    · exact absurd h6 ha
    · refine kx_st 0 (pc' := 9) (L' := [some (.ref 0), some (.int a)]) (st' := []) (h' := kv_wd g w) rfl ?_
      refine kx_st 2 (pc' := 11) (L' := [some (.ref 0), some (.int a)]) (st' := [.int 1, .ref 0]) (h' := kv_wd g w) rfl ?_
      refine kx_call (z := 123) (as := [.ref 0, .int 1]) (rest := []) (v := some (.int (-1000000000 - nI 1))) (h1 := kv_wd (kv_up g 64 1 (g 64 1 + 1)) w) rfl (ev_error (d := 898) 1 (by decide) (by decide)) ?_
      refine kx_st 0 (pc' := 14) (L' := [some (.ref 0), some (.int a)]) (st' := [.int (-1000000000 - nI 1)]) (h' := kv_wd (kv_up g 64 1 (g 64 1 + 1)) w) rfl ?_
      refine kx_ret (v := some (.int (-1000000000 - nI 1))) rfl ?_
      refine ⟨_, _, _, rfl, rfl, ?_⟩
      refine kx_st 0 (pc' := 0) (L' := [some (.ref 65), some (.int a)]) (st' := []) (h' := kv_wd (kv_up g 64 1 (g 64 1 + 1)) w) rfl ?_
      refine kx_st 3 (pc' := 4) (L' := [some (.ref 65), some (.int a)]) (st' := [.int 60, .int 0, .int a]) (h' := kv_wd (kv_up g 64 1 (g 64 1 + 1)) w) rfl ?_
      refine kx_call (z := 130) (as := [.int a, .int 0, .int 60]) (rest := []) (v := some (.int (kx_b (0 ≤ a ∧ a ≤ 60)))) (h1 := kv_wd (kv_up g 64 1 (g 64 1 + 1)) w) rfl (ev_in (d := 898) a 0 60) ?_
      refine kx_st 0 (pc' := 7) (L' := [some (.ref 65), some (.int a)]) (st' := [.int (kx_b (0 ≤ a ∧ a ≤ 60))]) (h' := kv_wd (kv_up g 64 1 (g 64 1 + 1)) w) rfl ?_
      refine kx_be (t := 19) rfl rfl (fun (m7 : ¬ (0 ≤ a ∧ a ≤ 60)) => ?_) (fun (m7 : (0 ≤ a ∧ a ≤ 60)) => ?_)
      · refine kx_st 2 (pc' := 22) (L' := [some (.ref 65), some (.int a)]) (st' := [.int (-1000000001), .ref 65]) (h' := kv_wd (kv_up g 64 1 (g 64 1 + 1)) w) rfl ?_
        refine kx_call (z := 131) (as := [.ref 65, .int (-1000000001)]) (rest := []) (v := some (.int (-1000000001))) (h1 := kv_wd (kv_up (kv_up g 64 1 (g 64 1 + 1)) 70 1 ((kv_up g 64 1 (g 64 1 + 1)) 70 1 + 1)) w) rfl (ev_errs (d := 898) (-1000000001) 1 (by decide) (by decide)) ?_
        refine kx_st 0 (pc' := 25) (L' := [some (.ref 65), some (.int a)]) (st' := [.int (-1000000001)]) (h' := kv_wd (kv_up (kv_up g 64 1 (g 64 1 + 1)) 70 1 ((kv_up g 64 1 (g 64 1 + 1)) 70 1 + 1)) w) rfl ?_
        refine kx_ret (v := some (.int (-1000000001))) rfl ?_
        exact ⟨rfl, _, _, rfl, kx_Rl_e hR⟩
      · exact absurd m7 ha
/-- there but for one -/
abbrev kx_wo (t p : Nat) : Nat := t &&& (63 ^^^ 2 ^ p)
def kx_mm (t : Nat) (V : Nat → Int32) : Nat → Int32 × Int32
  | 0 => (-1, 0)
  | p + 1 => if t.testBit p = true ∧ ((kx_mm t V p).1 < 0 ∨ V p < (kx_mm t V p).2) then (nI p, V p) else kx_mm t V p
theorem kx_mm_y {t : Nat} {V : Nat → Int32} {p : Nat} (h1 : t.testBit p = true) (h2 : (kx_mm t V p).1 < 0 ∨ V p < (kx_mm t V p).2) : kx_mm t V (p + 1) = (nI p, V p) := if_pos ⟨h1, h2⟩
theorem kx_mm_n {t : Nat} {V : Nat → Int32} {p : Nat} (h : ¬ (t.testBit p = true ∧ ((kx_mm t V p).1 < 0 ∨ V p < (kx_mm t V p).2))) : kx_mm t V (p + 1) = kx_mm t V p := if_neg h
theorem kx_mm_c {t : Nat} {V : Nat → Int32} : ∀ n, n ≤ 6 → ((kx_mm t V n).1 = -1 ∧ ∀ p, p < n → t.testBit p = false) ∨ ∃ p, p < n ∧ t.testBit p = true ∧ kx_mm t V n = (nI p, V p) := by
  intro n
  induction n with
  | zero => intro _; exact Or.inl ⟨rfl, fun p hp => by omega⟩
  | succ n ih =>
    intro hn
    by_cases h : t.testBit n = true ∧ ((kx_mm t V n).1 < 0 ∨ V n < (kx_mm t V n).2)
    · exact Or.inr ⟨n, by omega, h.1, kx_mm_y h.1 h.2⟩
    · rw [kx_mm_n h]
      rcases ih (by omega) with ⟨h1, h2⟩ | ⟨p, h1, h2, h3⟩
      · refine Or.inl ⟨h1, fun p hp => ?_⟩
        by_cases hpn : p = n
        · subst hpn
          cases hb : t.testBit p with
          | false => rfl
          | true => exact absurd ⟨hb, Or.inl (by rw [h1]; decide)⟩ h
        · exact h2 p (by omega)
      · exact Or.inr ⟨p, by omega, h2, h3⟩
set_option maxRecDepth 100000 in
theorem ev_openWithout {E : kv_V} {d : Nat} {g : kv_S} {w : kv_W} {F0 F1 : kx_FF} {s t m : Nat} {K : Nat → Nat → Int32} (hX : kx_X F0 F1 s t m K g) (hw : kv_qok w) (hKB : ∀ k, k < m → kx_K s k (K k) (K k)) (q0 : kx_Q) (n : Nat) (hwl : ∀ j, j < m → w.1 j = kx_lf (fun a b => decide (a < s) && decide (kx_lsn F1 (kx_yn F0 s t n q0) (K j) a b ∨ kx_lsn F1 (kx_yn F0 s t n q0) (K j) b a)) 36) (p : Nat) (hp : p < s) : kv_ev E (d + 3) 70 [.ref 43, .ref 1, .int (nI p)] (kv_wd g w) (some (.int (kx_bcn (nI (kx_OW F0 F1 s t m K q0 n (kx_wo t p)))))) (kv_wd g w) := by
  have s6 := hX.1.2.1
  have h64 : t < 64 := Nat.lt_of_lt_of_le hX.1.2.2.1 (Nat.pow_le_pow_right (by omega) s6)
  refine kx_ev (d := d + 2) (by decide) (Nat.le_of_ble_eq_true rfl) ?_
  refine kx_st 0 (pc' := 0) (L' := [some (.ref 43), some (.ref 1), some (.int (nI p))]) (st' := []) (h' := kv_wd g w) rfl ?_
  refine kx_st 10 (pc' := 12) (L' := [some (.ref 43), some (.ref 1), some (.int (nI p))]) (st' := [.int ((g 1 1) &&& ((1 <<< ((nI p) &&& 31)) ^^^ (-1))), .ref 1, .ref 43]) (h' := kv_wd g w) rfl ?_
  refine kx_call (z := 69) (as := [.ref 43, .ref 1, .int ((g 1 1) &&& ((1 <<< ((nI p) &&& 31)) ^^^ (-1)))]) (rest := []) (v := some (.int (nI (kx_OW F0 F1 s t m K q0 n (kx_wo t p))))) (h1 := kv_wd g w) rfl (by rw [show (g 1 1) &&& ((1 <<< ((nI p) &&& 31)) ^^^ (-1)) = nI (kx_wo t p) from by rw [hX.2.1.2.1]; exact (kx_sb t h64 p (by omega)).2]; exact ev_openWith (d := d) (g := g) (w := w) hX hw.1 hKB (kx_yn F0 s t n q0) (kx_wo t p) (Nat.lt_of_le_of_lt Nat.and_le_left h64) hwl hw) ?_
  refine kx_st 0 (pc' := 15) (L' := [some (.ref 43), some (.ref 1), some (.int (nI p))]) (st' := [.int (nI (kx_OW F0 F1 s t m K q0 n (kx_wo t p)))]) (h' := kv_wd g w) rfl ?_
  refine kx_call (z := 222) (as := [.int (nI (kx_OW F0 F1 s t m K q0 n (kx_wo t p)))]) (rest := []) (v := some (.int (kx_bcn (nI (kx_OW F0 F1 s t m K q0 n (kx_wo t p)))))) (h1 := kv_wd g w) rfl (ev_bitCount (d := d + 1) _) ?_
  refine kx_st 0 (pc' := 18) (L' := [some (.ref 43), some (.ref 1), some (.int (nI p))]) (st' := [.int (kx_bcn (nI (kx_OW F0 F1 s t m K q0 n (kx_wo t p))))]) (h' := kv_wd g w) rfl ?_
  refine kx_ret (v := some (.int (kx_bcn (nI (kx_OW F0 F1 s t m K q0 n (kx_wo t p)))))) rfl ?_
  exact ⟨rfl, rfl⟩
set_option maxRecDepth 100000 in
theorem lp_most {E : kv_V} {d : Nat} {g : kv_S} {w : kv_W} {F0 F1 : kx_FF} {s t m : Nat} {K : Nat → Nat → Int32} (hX : kx_X F0 F1 s t m K g) (hw : kv_qok w) (hKB : ∀ k, k < m → kx_K s k (K k) (K k)) (q0 : kx_Q) (n : Nat) (hwl : ∀ j, j < m → w.1 j = kx_lf (fun a b => decide (a < s) && decide (kx_lsn F1 (kx_yn F0 s t n q0) (K j) a b ∨ kx_lsn F1 (kx_yn F0 s t n q0) (K j) b a)) 36) {P : Option Value → kv_H → Prop} (hP : P (some (.int (kx_mm t (fun p => kx_bcn (nI (kx_OW F0 F1 s t m K q0 n (kx_wo t p)))) s).1)) (kv_wd g w)) : ∀ (nz p : Nat) (x5 : Option Value), p + nz = s → kx_V E (d + 3) 71 7 [some (.ref 43), some (.ref 1), some (.int ((kx_mm t (fun p => kx_bcn (nI (kx_OW F0 F1 s t m K q0 n (kx_wo t p)))) p).1)), some (.int ((kx_mm t (fun p => kx_bcn (nI (kx_OW F0 F1 s t m K q0 n (kx_wo t p)))) p).2)), some (.int (nI p)), x5] [] (kv_wd g w) P := by
  have s6 := hX.1.2.1
  intro nz
  induction nz with
  | zero =>
    intro p x5 hp
    have hkN : p = s := by omega
    refine kx_st 3 (pc' := 13) (L' := [some (.ref 43), some (.ref 1), some (.int ((kx_mm t (fun p => kx_bcn (nI (kx_OW F0 F1 s t m K q0 n (kx_wo t p)))) p).1)), some (.int ((kx_mm t (fun p => kx_bcn (nI (kx_OW F0 F1 s t m K q0 n (kx_wo t p)))) p).2)), some (.int (nI p)), x5]) (st' := [.int (g 1 0), .int (nI p)]) (h' := kv_wd g w) rfl ?_
    refine kx_bi (t := 59) rfl rfl (fun (h13 : g 1 0 ≤ nI p) => ?_) (fun (h13 : ¬ (g 1 0 ≤ nI p)) => ?_)
    · refine kx_st 1 (pc' := 60) (L' := [some (.ref 43), some (.ref 1), some (.int ((kx_mm t (fun p => kx_bcn (nI (kx_OW F0 F1 s t m K q0 n (kx_wo t p)))) p).1)), some (.int ((kx_mm t (fun p => kx_bcn (nI (kx_OW F0 F1 s t m K q0 n (kx_wo t p)))) p).2)), some (.int (nI p)), x5]) (st' := [.int ((kx_mm t (fun p => kx_bcn (nI (kx_OW F0 F1 s t m K q0 n (kx_wo t p)))) p).1)]) (h' := kv_wd g w) rfl ?_
      refine kx_ret (v := some (.int ((kx_mm t (fun p => kx_bcn (nI (kx_OW F0 F1 s t m K q0 n (kx_wo t p)))) p).1))) rfl ?_
      subst hkN
      exact hP
    · exact absurd (by rw [hX.2.1.1]; exact nI_le (by omega) (by omega)) h13
  | succ nz ih =>
    intro p x5 hp
    refine kx_st 3 (pc' := 13) (L' := [some (.ref 43), some (.ref 1), some (.int ((kx_mm t (fun p => kx_bcn (nI (kx_OW F0 F1 s t m K q0 n (kx_wo t p)))) p).1)), some (.int ((kx_mm t (fun p => kx_bcn (nI (kx_OW F0 F1 s t m K q0 n (kx_wo t p)))) p).2)), some (.int (nI p)), x5]) (st' := [.int (g 1 0), .int (nI p)]) (h' := kv_wd g w) rfl ?_
    refine kx_bi (t := 59) rfl rfl (fun (h13 : g 1 0 ≤ nI p) => ?_) (fun (h13 : ¬ (g 1 0 ≤ nI p)) => ?_)
    · exact absurd h13 (by rw [hX.2.1.1]; exact nI_ge (a := p) (b := s) (by omega) (by omega))
    · refine kx_st 0 (pc' := 16) (L' := [some (.ref 43), some (.ref 1), some (.int ((kx_mm t (fun p => kx_bcn (nI (kx_OW F0 F1 s t m K q0 n (kx_wo t p)))) p).1)), some (.int ((kx_mm t (fun p => kx_bcn (nI (kx_OW F0 F1 s t m K q0 n (kx_wo t p)))) p).2)), some (.int (nI p)), x5]) (st' := []) (h' := kv_wd g w) rfl ?_
      refine kx_st 2 (pc' := 19) (L' := [some (.ref 43), some (.ref 1), some (.int ((kx_mm t (fun p => kx_bcn (nI (kx_OW F0 F1 s t m K q0 n (kx_wo t p)))) p).1)), some (.int ((kx_mm t (fun p => kx_bcn (nI (kx_OW F0 F1 s t m K q0 n (kx_wo t p)))) p).2)), some (.int (nI p)), x5]) (st' := [.int (nI p), .ref 1]) (h' := kv_wd g w) rfl ?_
      refine kx_call (z := 13) (as := [.ref 1, .int (nI p)]) (rest := []) (v := some (.int (kx_b (t.testBit p = true)))) (h1 := kv_wd g w) rfl (ev_isThereT (d := d + 1) hX p (by omega)) ?_
      refine kx_st 0 (pc' := 22) (L' := [some (.ref 43), some (.ref 1), some (.int ((kx_mm t (fun p => kx_bcn (nI (kx_OW F0 F1 s t m K q0 n (kx_wo t p)))) p).1)), some (.int ((kx_mm t (fun p => kx_bcn (nI (kx_OW F0 F1 s t m K q0 n (kx_wo t p)))) p).2)), some (.int (nI p)), x5]) (st' := [.int (kx_b (t.testBit p = true))]) (h' := kv_wd g w) rfl ?_
      refine kx_bn (t := 28) rfl rfl (fun (h22 : (t.testBit p = true)) => ?_) (fun (h22 : ¬ (t.testBit p = true)) => ?_)
      · refine kx_st 3 (pc' := 32) (L' := [some (.ref 43), some (.ref 1), some (.int ((kx_mm t (fun p => kx_bcn (nI (kx_OW F0 F1 s t m K q0 n (kx_wo t p)))) p).1)), some (.int ((kx_mm t (fun p => kx_bcn (nI (kx_OW F0 F1 s t m K q0 n (kx_wo t p)))) p).2)), some (.int (nI p)), x5]) (st' := [.int (nI p), .ref 1, .ref 43]) (h' := kv_wd g w) rfl ?_
        refine kx_call (z := 70) (as := [.ref 43, .ref 1, .int (nI p)]) (rest := []) (v := some (.int (kx_bcn (nI (kx_OW F0 F1 s t m K q0 n (kx_wo t p)))))) (h1 := kv_wd g w) rfl (ev_openWithout (d := d) hX hw hKB q0 n hwl p (by omega)) ?_
        refine kx_st 0 (pc' := 35) (L' := [some (.ref 43), some (.ref 1), some (.int ((kx_mm t (fun p => kx_bcn (nI (kx_OW F0 F1 s t m K q0 n (kx_wo t p)))) p).1)), some (.int ((kx_mm t (fun p => kx_bcn (nI (kx_OW F0 F1 s t m K q0 n (kx_wo t p)))) p).2)), some (.int (nI p)), x5]) (st' := [.int (kx_bcn (nI (kx_OW F0 F1 s t m K q0 n (kx_wo t p))))]) (h' := kv_wd g w) rfl ?_
        refine kx_st 2 (pc' := 38) (L' := [some (.ref 43), some (.ref 1), some (.int ((kx_mm t (fun p => kx_bcn (nI (kx_OW F0 F1 s t m K q0 n (kx_wo t p)))) p).1)), some (.int ((kx_mm t (fun p => kx_bcn (nI (kx_OW F0 F1 s t m K q0 n (kx_wo t p)))) p).2)), some (.int (nI p)), some (.int (kx_bcn (nI (kx_OW F0 F1 s t m K q0 n (kx_wo t p)))))]) (st' := [.int ((kx_mm t (fun p => kx_bcn (nI (kx_OW F0 F1 s t m K q0 n (kx_wo t p)))) p).1)]) (h' := kv_wd g w) rfl ?_
        refine kx_bc (t := 47) rfl rfl (fun (h38 : (kx_mm t (fun p => kx_bcn (nI (kx_OW F0 F1 s t m K q0 n (kx_wo t p)))) p).1 < 0) => ?_) (fun (h38 : ¬ ((kx_mm t (fun p => kx_bcn (nI (kx_OW F0 F1 s t m K q0 n (kx_wo t p)))) p).1 < 0)) => ?_)
        · refine kx_st 6 (pc' := 7) (L' := [some (.ref 43), some (.ref 1), some (.int (nI p)), some (.int (kx_bcn (nI (kx_OW F0 F1 s t m K q0 n (kx_wo t p))))), some (.int ((nI p) + 1)), some (.int (kx_bcn (nI (kx_OW F0 F1 s t m K q0 n (kx_wo t p)))))]) (st' := []) (h' := kv_wd g w) rfl ?_
          have hh := ih (p + 1) (some (.int (kx_bcn (nI (kx_OW F0 F1 s t m K q0 n (kx_wo t p)))))) (by omega)
          rw [kx_mm_y h22 (Or.inl h38), nI_succ] at hh
          exact hh
        · refine kx_st 0 (pc' := 41) (L' := [some (.ref 43), some (.ref 1), some (.int ((kx_mm t (fun p => kx_bcn (nI (kx_OW F0 F1 s t m K q0 n (kx_wo t p)))) p).1)), some (.int ((kx_mm t (fun p => kx_bcn (nI (kx_OW F0 F1 s t m K q0 n (kx_wo t p)))) p).2)), some (.int (nI p)), some (.int (kx_bcn (nI (kx_OW F0 F1 s t m K q0 n (kx_wo t p)))))]) (st' := []) (h' := kv_wd g w) rfl ?_
          refine kx_st 2 (pc' := 44) (L' := [some (.ref 43), some (.ref 1), some (.int ((kx_mm t (fun p => kx_bcn (nI (kx_OW F0 F1 s t m K q0 n (kx_wo t p)))) p).1)), some (.int ((kx_mm t (fun p => kx_bcn (nI (kx_OW F0 F1 s t m K q0 n (kx_wo t p)))) p).2)), some (.int (nI p)), some (.int (kx_bcn (nI (kx_OW F0 F1 s t m K q0 n (kx_wo t p)))))]) (st' := [.int ((kx_mm t (fun p => kx_bcn (nI (kx_OW F0 F1 s t m K q0 n (kx_wo t p)))) p).2), .int (kx_bcn (nI (kx_OW F0 F1 s t m K q0 n (kx_wo t p))))]) (h' := kv_wd g w) rfl ?_
          refine kx_bi (t := 53) rfl rfl (fun (h44 : (kx_mm t (fun p => kx_bcn (nI (kx_OW F0 F1 s t m K q0 n (kx_wo t p)))) p).2 ≤ kx_bcn (nI (kx_OW F0 F1 s t m K q0 n (kx_wo t p)))) => ?_) (fun (h44 : ¬ ((kx_mm t (fun p => kx_bcn (nI (kx_OW F0 F1 s t m K q0 n (kx_wo t p)))) p).2 ≤ kx_bcn (nI (kx_OW F0 F1 s t m K q0 n (kx_wo t p))))) => ?_)
          · refine kx_st 2 (pc' := 7) (L' := [some (.ref 43), some (.ref 1), some (.int ((kx_mm t (fun p => kx_bcn (nI (kx_OW F0 F1 s t m K q0 n (kx_wo t p)))) p).1)), some (.int ((kx_mm t (fun p => kx_bcn (nI (kx_OW F0 F1 s t m K q0 n (kx_wo t p)))) p).2)), some (.int ((nI p) + 1)), some (.int (kx_bcn (nI (kx_OW F0 F1 s t m K q0 n (kx_wo t p)))))]) (st' := []) (h' := kv_wd g w) rfl ?_
            have hh := ih (p + 1) (some (.int (kx_bcn (nI (kx_OW F0 F1 s t m K q0 n (kx_wo t p)))))) (by omega)
            rw [kx_mm_n (fun z => z.2.elim h38 (fun y => Int32.not_lt.mpr h44 y)), nI_succ] at hh
            exact hh
          · refine kx_st 0 (pc' := 47) (L' := [some (.ref 43), some (.ref 1), some (.int ((kx_mm t (fun p => kx_bcn (nI (kx_OW F0 F1 s t m K q0 n (kx_wo t p)))) p).1)), some (.int ((kx_mm t (fun p => kx_bcn (nI (kx_OW F0 F1 s t m K q0 n (kx_wo t p)))) p).2)), some (.int (nI p)), some (.int (kx_bcn (nI (kx_OW F0 F1 s t m K q0 n (kx_wo t p)))))]) (st' := []) (h' := kv_wd g w) rfl ?_
            refine kx_st 6 (pc' := 7) (L' := [some (.ref 43), some (.ref 1), some (.int (nI p)), some (.int (kx_bcn (nI (kx_OW F0 F1 s t m K q0 n (kx_wo t p))))), some (.int ((nI p) + 1)), some (.int (kx_bcn (nI (kx_OW F0 F1 s t m K q0 n (kx_wo t p)))))]) (st' := []) (h' := kv_wd g w) rfl ?_
            have hh := ih (p + 1) (some (.int (kx_bcn (nI (kx_OW F0 F1 s t m K q0 n (kx_wo t p)))))) (by omega)
            rw [kx_mm_y h22 (Or.inr (Int32.not_le.mp h44)), nI_succ] at hh
            exact hh
      · refine kx_st 0 (pc' := 25) (L' := [some (.ref 43), some (.ref 1), some (.int ((kx_mm t (fun p => kx_bcn (nI (kx_OW F0 F1 s t m K q0 n (kx_wo t p)))) p).1)), some (.int ((kx_mm t (fun p => kx_bcn (nI (kx_OW F0 F1 s t m K q0 n (kx_wo t p)))) p).2)), some (.int (nI p)), x5]) (st' := []) (h' := kv_wd g w) rfl ?_
        refine kx_st 3 (pc' := 7) (L' := [some (.ref 43), some (.ref 1), some (.int ((kx_mm t (fun p => kx_bcn (nI (kx_OW F0 F1 s t m K q0 n (kx_wo t p)))) p).1)), some (.int ((kx_mm t (fun p => kx_bcn (nI (kx_OW F0 F1 s t m K q0 n (kx_wo t p)))) p).2)), some (.int ((nI p) + 1)), x5]) (st' := []) (h' := kv_wd g w) rfl ?_
        have hh := ih (p + 1) (x5) (by omega)
        rw [kx_mm_n (fun z => h22 z.1), nI_succ] at hh
        exact hh
set_option maxRecDepth 100000 in
theorem ev_mostMissed {E : kv_V} {d : Nat} {g : kv_S} {w : kv_W} {F0 F1 : kx_FF} {s t m : Nat} {K : Nat → Nat → Int32} (hX : kx_X F0 F1 s t m K g) (hw : kv_qok w) (hKB : ∀ k, k < m → kx_K s k (K k) (K k)) (q0 : kx_Q) (n : Nat) (hwl : ∀ j, j < m → w.1 j = kx_lf (fun a b => decide (a < s) && decide (kx_lsn F1 (kx_yn F0 s t n q0) (K j) a b ∨ kx_lsn F1 (kx_yn F0 s t n q0) (K j) b a)) 36) : kv_ev E (d + 4) 71 [.ref 43, .ref 1] (kv_wd g w) (some (.int ((kx_mm t (fun p => kx_bcn (nI (kx_OW F0 F1 s t m K q0 n (kx_wo t p)))) s).1))) (kv_wd g w) := by
  refine kx_ev (d := d + 3) (by decide) (Nat.le_of_ble_eq_true rfl) ?_
  refine kx_st 0 (pc' := 0) (L' := [some (.ref 43), some (.ref 1), none, none, none, none]) (st' := []) (h' := kv_wd g w) rfl ?_
  refine kx_st 6 (pc' := 7) (L' := [some (.ref 43), some (.ref 1), some (.int (-1)), some (.int 0), some (.int 0), none]) (st' := []) (h' := kv_wd g w) rfl ?_
  exact lp_most (d := d) hX hw hKB q0 n hwl ⟨rfl, rfl⟩ s 0 none (by omega)
set_option maxRecDepth 100000 in
theorem lp_mmiss {E : kv_V} {d : Nat} {g : kv_S} {w : kv_W} {F0 F1 : kx_FF} {s t m : Nat} {K : Nat → Nat → Int32} (hM : kx_M F0 F1 s t m K (g 66)) (hKB : ∀ k, k < m → kx_K s k (K k) (K k)) (q0 : kx_Q) (hq : kx_hmq (g 66) q0) (n : Nat) (n60 : n ≤ 60) (c0 : Int32) {P : Option Value → kv_H → Prop} (hP : ∀ (g1 : kv_S) (x6 : Option Value), ((∀ b, b ≠ 65 → b ≠ 66 → b ≠ 68 → g1 b = g b) ∧ (∀ z, (z < 7 ∨ 14 < z) → g1 65 z = g 65 z) ∧ ∀ j, j < 268 → g1 66 j = g 66 j) → kx_V E (d + 105) 192 101 [some (.ref 65), some (.int (nI n)), some (.int c0), some (.int ((kx_mm t (fun p => kx_bcn (nI (kx_OW F0 F1 s t m K q0 n (kx_wo t p)))) s).1)), some (.int ((kx_mm t (fun p => kx_bcn (nI (kx_OW F0 F1 s t m K q0 n (kx_wo t p)))) s).2)), some (.int (nI s)), x6] [] (kv_wd g1 w) P) : ∀ (nz p : Nat) (g1 : kv_S) (x6 : Option Value), p + nz = s → ((∀ b, b ≠ 65 → b ≠ 66 → b ≠ 68 → g1 b = g b) ∧ (∀ z, (z < 7 ∨ 14 < z) → g1 65 z = g 65 z) ∧ ∀ j, j < 268 → g1 66 j = g 66 j) → kx_V E (d + 105) 192 34 [some (.ref 65), some (.int (nI n)), some (.int c0), some (.int ((kx_mm t (fun p => kx_bcn (nI (kx_OW F0 F1 s t m K q0 n (kx_wo t p)))) p).1)), some (.int ((kx_mm t (fun p => kx_bcn (nI (kx_OW F0 F1 s t m K q0 n (kx_wo t p)))) p).2)), some (.int (nI p)), x6] [] (kv_wd g1 w) P := by
  have s6 := hM.1.2.1
  have m8 := hM.1.2.2.2
  have h64 : t < 64 := Nat.lt_of_lt_of_le hM.1.2.2.1 (Nat.pow_le_pow_right (by omega) s6)
  intro nz
  induction nz with
  | zero =>
    intro p g1 x6 hp h1
    have hkN : p = s := by omega
    have hM1 : kx_M F0 F1 s t m K (g1 66) := kx_M_cg (fun j _ _ hj => h1.2.2 j hj) hM
    have hq1 : kx_hmq (g1 66) q0 := ⟨fun p hp => ⟨(h1.2.2 _ (by omega)).trans (hq.1 p hp).1, (h1.2.2 _ (by omega)).trans (hq.1 p hp).2⟩, (h1.2.2 0 (by omega)).trans hq.2⟩
    refine kx_st 4 (pc' := 41) (L' := [some (.ref 65), some (.int (nI n)), some (.int c0), some (.int ((kx_mm t (fun p => kx_bcn (nI (kx_OW F0 F1 s t m K q0 n (kx_wo t p)))) p).1)), some (.int ((kx_mm t (fun p => kx_bcn (nI (kx_OW F0 F1 s t m K q0 n (kx_wo t p)))) p).2)), some (.int (nI p)), x6]) (st' := [.int 3, .ref 66, .int (nI p)]) (h' := kv_wd g1 w) rfl ?_
    refine kx_ia (k := 3) rfl rfl (by decide) rfl (by decide) (by decide) ?_
    refine kx_bi (t := 101) rfl rfl (fun (h42 : g1 66 3 ≤ nI p) => ?_) (fun (h42 : ¬ (g1 66 3 ≤ nI p)) => ?_)
    · subst hkN
      exact hP g1 x6 h1
    · exact absurd (by rw [hM1.2.1.1]; exact nI_le (by omega) (by omega)) h42
  | succ nz ih =>
    intro p g1 x6 hp h1
    have hM1 : kx_M F0 F1 s t m K (g1 66) := kx_M_cg (fun j _ _ hj => h1.2.2 j hj) hM
    have hq1 : kx_hmq (g1 66) q0 := ⟨fun p hp => ⟨(h1.2.2 _ (by omega)).trans (hq.1 p hp).1, (h1.2.2 _ (by omega)).trans (hq.1 p hp).2⟩, (h1.2.2 0 (by omega)).trans hq.2⟩
    refine kx_st 4 (pc' := 41) (L' := [some (.ref 65), some (.int (nI n)), some (.int c0), some (.int ((kx_mm t (fun p => kx_bcn (nI (kx_OW F0 F1 s t m K q0 n (kx_wo t p)))) p).1)), some (.int ((kx_mm t (fun p => kx_bcn (nI (kx_OW F0 F1 s t m K q0 n (kx_wo t p)))) p).2)), some (.int (nI p)), x6]) (st' := [.int 3, .ref 66, .int (nI p)]) (h' := kv_wd g1 w) rfl ?_
    refine kx_ia (k := 3) rfl rfl (by decide) rfl (by decide) (by decide) ?_
    refine kx_bi (t := 101) rfl rfl (fun (h42 : g1 66 3 ≤ nI p) => ?_) (fun (h42 : ¬ (g1 66 3 ≤ nI p)) => ?_)
    · exact absurd h42 (by rw [hM1.2.1.1]; exact nI_ge (a := p) (b := s) (by omega) (by omega))
    · refine kx_st 0 (pc' := 45) (L' := [some (.ref 65), some (.int (nI n)), some (.int c0), some (.int ((kx_mm t (fun p => kx_bcn (nI (kx_OW F0 F1 s t m K q0 n (kx_wo t p)))) p).1)), some (.int ((kx_mm t (fun p => kx_bcn (nI (kx_OW F0 F1 s t m K q0 n (kx_wo t p)))) p).2)), some (.int (nI p)), x6]) (st' := []) (h' := kv_wd g1 w) rfl ?_
      refine kx_st 2 (pc' := 48) (L' := [some (.ref 65), some (.int (nI n)), some (.int c0), some (.int ((kx_mm t (fun p => kx_bcn (nI (kx_OW F0 F1 s t m K q0 n (kx_wo t p)))) p).1)), some (.int ((kx_mm t (fun p => kx_bcn (nI (kx_OW F0 F1 s t m K q0 n (kx_wo t p)))) p).2)), some (.int (nI p)), x6]) (st' := [.int (nI p), .ref 65]) (h' := kv_wd g1 w) rfl ?_
      refine kx_call (z := 141) (as := [.ref 65, .int (nI p)]) (rest := []) (v := some (.int (kx_b (t.testBit p = true)))) (h1 := kv_wd g1 w) rfl (ev_mThereT (d := d + 104) hM1 p (by omega)) ?_
      refine kx_st 0 (pc' := 51) (L' := [some (.ref 65), some (.int (nI n)), some (.int c0), some (.int ((kx_mm t (fun p => kx_bcn (nI (kx_OW F0 F1 s t m K q0 n (kx_wo t p)))) p).1)), some (.int ((kx_mm t (fun p => kx_bcn (nI (kx_OW F0 F1 s t m K q0 n (kx_wo t p)))) p).2)), some (.int (nI p)), x6]) (st' := [.int (kx_b (t.testBit p = true))]) (h' := kv_wd g1 w) rfl ?_
      refine kx_be (t := 69) rfl rfl (fun (h51 : ¬ (t.testBit p = true)) => ?_) (fun (h51 : (t.testBit p = true)) => ?_)
      · refine kx_st 3 (pc' := 74) (L' := [some (.ref 65), some (.int (nI n)), some (.int c0), some (.int ((kx_mm t (fun p => kx_bcn (nI (kx_OW F0 F1 s t m K q0 n (kx_wo t p)))) p).1)), some (.int ((kx_mm t (fun p => kx_bcn (nI (kx_OW F0 F1 s t m K q0 n (kx_wo t p)))) p).2)), some (.int (nI p)), some (.int (-1))]) (st' := [.int (-1)]) (h' := kv_wd g1 w) rfl ?_
        refine kx_st 1 (pc' := 95) (L' := [some (.ref 65), some (.int (nI n)), some (.int c0), some (.int ((kx_mm t (fun p => kx_bcn (nI (kx_OW F0 F1 s t m K q0 n (kx_wo t p)))) p).1)), some (.int ((kx_mm t (fun p => kx_bcn (nI (kx_OW F0 F1 s t m K q0 n (kx_wo t p)))) p).2)), some (.int (nI p)), some (.int (-1))]) (st' := []) (h' := kv_wd g1 w) rfl ?_
        refine kx_st 2 (pc' := 34) (L' := [some (.ref 65), some (.int (nI n)), some (.int c0), some (.int ((kx_mm t (fun p => kx_bcn (nI (kx_OW F0 F1 s t m K q0 n (kx_wo t p)))) p).1)), some (.int ((kx_mm t (fun p => kx_bcn (nI (kx_OW F0 F1 s t m K q0 n (kx_wo t p)))) p).2)), some (.int ((nI p) + 1)), some (.int (-1))]) (st' := []) (h' := kv_wd g1 w) rfl ?_
        have hh := ih (p + 1) g1 (some (.int (-1))) (by omega) h1
        rw [kx_mm_n (fun z => h51 z.1), nI_succ] at hh
        exact hh
      · refine kx_st 0 (pc' := 54) (L' := [some (.ref 65), some (.int (nI n)), some (.int c0), some (.int ((kx_mm t (fun p => kx_bcn (nI (kx_OW F0 F1 s t m K q0 n (kx_wo t p)))) p).1)), some (.int ((kx_mm t (fun p => kx_bcn (nI (kx_OW F0 F1 s t m K q0 n (kx_wo t p)))) p).2)), some (.int (nI p)), x6]) (st' := []) (h' := kv_wd g1 w) rfl ?_
        refine kx_st 5 (pc' := 60) (L' := [some (.ref 65), some (.int (nI n)), some (.int c0), some (.int ((kx_mm t (fun p => kx_bcn (nI (kx_OW F0 F1 s t m K q0 n (kx_wo t p)))) p).1)), some (.int ((kx_mm t (fun p => kx_bcn (nI (kx_OW F0 F1 s t m K q0 n (kx_wo t p)))) p).2)), some (.int (nI p)), x6]) (st' := [.int (nI n), .int (1 <<< ((nI p) &&& 31)), .ref 65]) (h' := kv_wd g1 w) rfl ?_
        obtain ⟨go, eo, ro, so, to⟩ := ev_openBut (E := E) (d := d) (g := g1) (w := w) hKB hM1 q0 hq1 (2 ^ p) n (kx_2p p (by omega)).2 n60 (kx_wo t p) (kx_sbl hM.1.2.2.1 (by omega)).2 (fun x hx => by rw [(kx_sb2 t h64 p (by omega) x (by omega)).2, kx_2pb p (by omega) x (by omega)])
        have h2 : (∀ b, b ≠ 65 → b ≠ 66 → b ≠ 68 → go b = g b) ∧ (∀ z, (z < 7 ∨ 14 < z) → go 65 z = g 65 z) ∧ ∀ j, j < 268 → go 66 j = g 66 j := ⟨fun b b1 b2 b3 => (ro b b1 b2 b3).trans (h1.1 b b1 b2 b3), fun z hz => (so z hz).trans (h1.2.1 z hz), fun j hj => (to j hj).trans (h1.2.2 j hj)⟩
        refine kx_call (z := 188) (as := [.ref 65, .int (1 <<< ((nI p) &&& 31)), .int (nI n)]) (rest := []) (v := some (.int (nI (kx_OW F0 F1 s t m K q0 n (kx_wo t p))))) (h1 := kv_wd go w) rfl (by rw [(kx_2p p (by omega)).1]; exact eo) ?_
        refine kx_st 0 (pc' := 63) (L' := [some (.ref 65), some (.int (nI n)), some (.int c0), some (.int ((kx_mm t (fun p => kx_bcn (nI (kx_OW F0 F1 s t m K q0 n (kx_wo t p)))) p).1)), some (.int ((kx_mm t (fun p => kx_bcn (nI (kx_OW F0 F1 s t m K q0 n (kx_wo t p)))) p).2)), some (.int (nI p)), x6]) (st' := [.int (nI (kx_OW F0 F1 s t m K q0 n (kx_wo t p)))]) (h' := kv_wd go w) rfl ?_
        refine kx_call (z := 134) (as := [.int (nI (kx_OW F0 F1 s t m K q0 n (kx_wo t p)))]) (rest := []) (v := some (.int (kx_bcn (nI (kx_OW F0 F1 s t m K q0 n (kx_wo t p)))))) (h1 := kv_wd go w) rfl (ev_bits (d := d + 104) _ (kx_OW_lt m8)) ?_
        refine kx_st 0 (pc' := 66) (L' := [some (.ref 65), some (.int (nI n)), some (.int c0), some (.int ((kx_mm t (fun p => kx_bcn (nI (kx_OW F0 F1 s t m K q0 n (kx_wo t p)))) p).1)), some (.int ((kx_mm t (fun p => kx_bcn (nI (kx_OW F0 F1 s t m K q0 n (kx_wo t p)))) p).2)), some (.int (nI p)), x6]) (st' := [.int (kx_bcn (nI (kx_OW F0 F1 s t m K q0 n (kx_wo t p))))]) (h' := kv_wd go w) rfl ?_
        refine kx_st 3 (pc' := 74) (L' := [some (.ref 65), some (.int (nI n)), some (.int c0), some (.int ((kx_mm t (fun p => kx_bcn (nI (kx_OW F0 F1 s t m K q0 n (kx_wo t p)))) p).1)), some (.int ((kx_mm t (fun p => kx_bcn (nI (kx_OW F0 F1 s t m K q0 n (kx_wo t p)))) p).2)), some (.int (nI p)), some (.int (kx_bcn (nI (kx_OW F0 F1 s t m K q0 n (kx_wo t p)))))]) (st' := [.int (kx_bcn (nI (kx_OW F0 F1 s t m K q0 n (kx_wo t p))))]) (h' := kv_wd go w) rfl ?_
        refine kx_bc (t := 95) rfl rfl (fun (h74 : kx_bcn (nI (kx_OW F0 F1 s t m K q0 n (kx_wo t p))) < 0) => ?_) (fun (h74 : ¬ (kx_bcn (nI (kx_OW F0 F1 s t m K q0 n (kx_wo t p))) < 0)) => ?_)
        · exact absurd h74 (Int32.not_lt.mpr (kx_bcn0 _ (kx_OW_lt m8)))
        · refine kx_st 0 (pc' := 77) (L' := [some (.ref 65), some (.int (nI n)), some (.int c0), some (.int ((kx_mm t (fun p => kx_bcn (nI (kx_OW F0 F1 s t m K q0 n (kx_wo t p)))) p).1)), some (.int ((kx_mm t (fun p => kx_bcn (nI (kx_OW F0 F1 s t m K q0 n (kx_wo t p)))) p).2)), some (.int (nI p)), some (.int (kx_bcn (nI (kx_OW F0 F1 s t m K q0 n (kx_wo t p)))))]) (st' := []) (h' := kv_wd go w) rfl ?_
          refine kx_st 1 (pc' := 78) (L' := [some (.ref 65), some (.int (nI n)), some (.int c0), some (.int ((kx_mm t (fun p => kx_bcn (nI (kx_OW F0 F1 s t m K q0 n (kx_wo t p)))) p).1)), some (.int ((kx_mm t (fun p => kx_bcn (nI (kx_OW F0 F1 s t m K q0 n (kx_wo t p)))) p).2)), some (.int (nI p)), some (.int (kx_bcn (nI (kx_OW F0 F1 s t m K q0 n (kx_wo t p)))))]) (st' := [.int ((kx_mm t (fun p => kx_bcn (nI (kx_OW F0 F1 s t m K q0 n (kx_wo t p)))) p).1)]) (h' := kv_wd go w) rfl ?_
          refine kx_bc (t := 88) rfl rfl (fun (h78 : (kx_mm t (fun p => kx_bcn (nI (kx_OW F0 F1 s t m K q0 n (kx_wo t p)))) p).1 < 0) => ?_) (fun (h78 : ¬ ((kx_mm t (fun p => kx_bcn (nI (kx_OW F0 F1 s t m K q0 n (kx_wo t p)))) p).1 < 0)) => ?_)
          · refine kx_st 6 (pc' := 34) (L' := [some (.ref 65), some (.int (nI n)), some (.int c0), some (.int (nI p)), some (.int (kx_bcn (nI (kx_OW F0 F1 s t m K q0 n (kx_wo t p))))), some (.int ((nI p) + 1)), some (.int (kx_bcn (nI (kx_OW F0 F1 s t m K q0 n (kx_wo t p)))))]) (st' := []) (h' := kv_wd go w) rfl ?_
            have hh := ih (p + 1) go (some (.int (kx_bcn (nI (kx_OW F0 F1 s t m K q0 n (kx_wo t p)))))) (by omega) h2
            rw [kx_mm_y h51 (Or.inl h78), nI_succ] at hh
            exact hh
          · refine kx_st 0 (pc' := 81) (L' := [some (.ref 65), some (.int (nI n)), some (.int c0), some (.int ((kx_mm t (fun p => kx_bcn (nI (kx_OW F0 F1 s t m K q0 n (kx_wo t p)))) p).1)), some (.int ((kx_mm t (fun p => kx_bcn (nI (kx_OW F0 F1 s t m K q0 n (kx_wo t p)))) p).2)), some (.int (nI p)), some (.int (kx_bcn (nI (kx_OW F0 F1 s t m K q0 n (kx_wo t p)))))]) (st' := []) (h' := kv_wd go w) rfl ?_
            refine kx_st 2 (pc' := 85) (L' := [some (.ref 65), some (.int (nI n)), some (.int c0), some (.int ((kx_mm t (fun p => kx_bcn (nI (kx_OW F0 F1 s t m K q0 n (kx_wo t p)))) p).1)), some (.int ((kx_mm t (fun p => kx_bcn (nI (kx_OW F0 F1 s t m K q0 n (kx_wo t p)))) p).2)), some (.int (nI p)), some (.int (kx_bcn (nI (kx_OW F0 F1 s t m K q0 n (kx_wo t p)))))]) (st' := [.int ((kx_mm t (fun p => kx_bcn (nI (kx_OW F0 F1 s t m K q0 n (kx_wo t p)))) p).2), .int (kx_bcn (nI (kx_OW F0 F1 s t m K q0 n (kx_wo t p))))]) (h' := kv_wd go w) rfl ?_
            refine kx_bi (t := 95) rfl rfl (fun (h85 : (kx_mm t (fun p => kx_bcn (nI (kx_OW F0 F1 s t m K q0 n (kx_wo t p)))) p).2 ≤ kx_bcn (nI (kx_OW F0 F1 s t m K q0 n (kx_wo t p)))) => ?_) (fun (h85 : ¬ ((kx_mm t (fun p => kx_bcn (nI (kx_OW F0 F1 s t m K q0 n (kx_wo t p)))) p).2 ≤ kx_bcn (nI (kx_OW F0 F1 s t m K q0 n (kx_wo t p))))) => ?_)
            · refine kx_st 2 (pc' := 34) (L' := [some (.ref 65), some (.int (nI n)), some (.int c0), some (.int ((kx_mm t (fun p => kx_bcn (nI (kx_OW F0 F1 s t m K q0 n (kx_wo t p)))) p).1)), some (.int ((kx_mm t (fun p => kx_bcn (nI (kx_OW F0 F1 s t m K q0 n (kx_wo t p)))) p).2)), some (.int ((nI p) + 1)), some (.int (kx_bcn (nI (kx_OW F0 F1 s t m K q0 n (kx_wo t p)))))]) (st' := []) (h' := kv_wd go w) rfl ?_
              have hh := ih (p + 1) go (some (.int (kx_bcn (nI (kx_OW F0 F1 s t m K q0 n (kx_wo t p)))))) (by omega) h2
              rw [kx_mm_n (fun z => z.2.elim h78 (fun y => Int32.not_lt.mpr h85 y)), nI_succ] at hh
              exact hh
            · refine kx_st 0 (pc' := 88) (L' := [some (.ref 65), some (.int (nI n)), some (.int c0), some (.int ((kx_mm t (fun p => kx_bcn (nI (kx_OW F0 F1 s t m K q0 n (kx_wo t p)))) p).1)), some (.int ((kx_mm t (fun p => kx_bcn (nI (kx_OW F0 F1 s t m K q0 n (kx_wo t p)))) p).2)), some (.int (nI p)), some (.int (kx_bcn (nI (kx_OW F0 F1 s t m K q0 n (kx_wo t p)))))]) (st' := []) (h' := kv_wd go w) rfl ?_
              refine kx_st 6 (pc' := 34) (L' := [some (.ref 65), some (.int (nI n)), some (.int c0), some (.int (nI p)), some (.int (kx_bcn (nI (kx_OW F0 F1 s t m K q0 n (kx_wo t p))))), some (.int ((nI p) + 1)), some (.int (kx_bcn (nI (kx_OW F0 F1 s t m K q0 n (kx_wo t p)))))]) (st' := []) (h' := kv_wd go w) rfl ?_
              have hh := ih (p + 1) go (some (.int (kx_bcn (nI (kx_OW F0 F1 s t m K q0 n (kx_wo t p)))))) (by omega) h2
              rw [kx_mm_y h51 (Or.inr (Int32.not_le.mp h85)), nI_succ] at hh
              exact hh
set_option maxRecDepth 100000 in
theorem pr_miss {E : kv_V} (a b : Int32) : kx_ok2 E (kx_Rl kx_L) 101 192 [.int a, .int b] := by
  intro g w i hR hi
  obtain ⟨F0, F1, s, t, m, K, hF0, hF1, hX, hM, hKB, hKe⟩ := kx_Rl_XMK hR
  obtain ⟨q0, hq0, hm0, hb0, hy0⟩ := kx_Rl_q hR
  have q := hR.1
  have b1 := hX.2.1.1
  have b2 := hM.2.1.1
  have a1 := hX.1.1
  have a2 := hX.1.2.1
  have a4 := hX.1.2.2.2
  have d1 := hX.2.1.2.2
  have d2 := hM.2.1.2
  by_cases ha : 0 ≤ a ∧ a ≤ 20
  · by_cases hc : 0 ≤ b ∧ b ≤ 1
    · obtain ⟨n, hn20, rfl⟩ := kx_nIof (n := 20) ha.1 ha.2 (by omega)
      have hn60 : n ≤ 60 := by omega
      have h64 : t < 64 := Nat.lt_of_lt_of_le hX.1.2.2.1 (Nat.pow_le_pow_right (by omega) a2)
      rcases kx_mm_c (t := t) (V := (fun p => kx_bcn (nI (kx_OW F0 F1 s t m K q0 n (kx_wo t p))))) s a2 with ⟨c1, c2⟩ | ⟨p, hps, c1, c2⟩
      · have t0 : t = 0 := by
          apply Nat.eq_of_testBit_eq
          intro j
          rw [Nat.zero_testBit]
          by_cases hj : j < s
          · exact c2 j hj
          · exact Nat.testBit_lt_two_pow (Nat.lt_of_lt_of_le hX.1.2.2.1 (Nat.pow_le_pow_right (by omega) (by omega)))
        refine kx_two (by decide) (Nat.le_of_ble_eq_true rfl) (by decide) (Nat.le_of_ble_eq_true rfl) ?_
        refine kx_st 0 (pc' := 0) (L' := [some (.ref 0), some (.int (nI n)), some (.int b), none]) (st' := []) (h' := kv_wd g w) rfl ?_
        refine kx_st 2 (pc' := 3) (L' := [some (.ref 0), some (.int (nI n)), some (.int b), none]) (st' := [.int 20, .int (nI n)]) (h' := kv_wd g w) rfl ?_
        refine kx_call (z := 124) (as := [.int (nI n), .int 20]) (rest := []) (v := some (.int (kx_b (0 ≤ nI n ∧ nI n ≤ 20)))) (h1 := kv_wd g w) rfl (ev_within (d := 898) (nI n) 20) ?_
        refine kx_st 0 (pc' := 6) (L' := [some (.ref 0), some (.int (nI n)), some (.int b), none]) (st' := [.int (kx_b (0 ≤ nI n ∧ nI n ≤ 20))]) (h' := kv_wd g w) rfl ?_
        refine kx_be (t := 17) rfl rfl (fun (h6 : ¬ (0 ≤ nI n ∧ nI n ≤ 20)) => ?_) (fun (h6 : (0 ≤ nI n ∧ nI n ≤ 20)) => ?_)
        · exact absurd ha h6
        · refine kx_st 0 (pc' := 9) (L' := [some (.ref 0), some (.int (nI n)), some (.int b), none]) (st' := []) (h' := kv_wd g w) rfl ?_
          refine kx_st 2 (pc' := 11) (L' := [some (.ref 0), some (.int (nI n)), some (.int b), none]) (st' := [.int 1, .int b]) (h' := kv_wd g w) rfl ?_
          refine kx_call (z := 124) (as := [.int b, .int 1]) (rest := []) (v := some (.int (kx_b (0 ≤ b ∧ b ≤ 1)))) (h1 := kv_wd g w) rfl (ev_within (d := 898) b 1) ?_
          refine kx_st 0 (pc' := 14) (L' := [some (.ref 0), some (.int (nI n)), some (.int b), none]) (st' := [.int (kx_b (0 ≤ b ∧ b ≤ 1))]) (h' := kv_wd g w) rfl ?_
          refine kx_bn (t := 23) rfl rfl (fun (h14 : (0 ≤ b ∧ b ≤ 1)) => ?_) (fun (h14 : ¬ (0 ≤ b ∧ b ≤ 1)) => ?_)
          · refine kx_st 3 (pc' := 30) (L' := [some (.ref 0), some (.int (nI n)), some (.int b), none]) (st' := [.int (g 1 1)]) (h' := kv_wd g w) rfl ?_
            refine kx_bc (t := 39) rfl rfl (fun (h30 : ¬ g 1 1 = 0) => ?_) (fun (h30 : ¬ (¬ g 1 1 = 0)) => ?_)
            · exact absurd (by rw [hX.2.1.2.1, t0]; rfl) h30
            · refine kx_st 0 (pc' := 33) (L' := [some (.ref 0), some (.int (nI n)), some (.int b), none]) (st' := []) (h' := kv_wd g w) rfl ?_
              refine kx_st 2 (pc' := 35) (L' := [some (.ref 0), some (.int (nI n)), some (.int b), none]) (st' := [.int 2, .ref 0]) (h' := kv_wd g w) rfl ?_
              refine kx_call (z := 123) (as := [.ref 0, .int 2]) (rest := []) (v := some (.int (-1000000000 - nI 2))) (h1 := kv_wd (kv_up g 64 2 (g 64 2 + 1)) w) rfl (ev_error (d := 898) 2 (by decide) (by decide)) ?_
              refine kx_st 0 (pc' := 38) (L' := [some (.ref 0), some (.int (nI n)), some (.int b), none]) (st' := [.int (-1000000000 - nI 2)]) (h' := kv_wd (kv_up g 64 2 (g 64 2 + 1)) w) rfl ?_
              refine kx_ret (v := some (.int (-1000000000 - nI 2))) rfl ?_
              refine ⟨_, _, _, rfl, rfl, ?_⟩
              refine kx_st 0 (pc' := 0) (L' := [some (.ref 65), some (.int (nI n)), some (.int b), none, none, none, none]) (st' := []) (h' := kv_wd (kv_up g 64 2 (g 64 2 + 1)) w) rfl ?_
              refine kx_st 3 (pc' := 4) (L' := [some (.ref 65), some (.int (nI n)), some (.int b), none, none, none, none]) (st' := [.int 20, .int 0, .int (nI n)]) (h' := kv_wd (kv_up g 64 2 (g 64 2 + 1)) w) rfl ?_
              refine kx_call (z := 130) (as := [.int (nI n), .int 0, .int 20]) (rest := []) (v := some (.int (kx_b (0 ≤ nI n ∧ nI n ≤ 20)))) (h1 := kv_wd (kv_up g 64 2 (g 64 2 + 1)) w) rfl (ev_in (d := 898) (nI n) 0 20) ?_
              refine kx_st 0 (pc' := 7) (L' := [some (.ref 65), some (.int (nI n)), some (.int b), none, none, none, none]) (st' := [.int (kx_b (0 ≤ nI n ∧ nI n ≤ 20))]) (h' := kv_wd (kv_up g 64 2 (g 64 2 + 1)) w) rfl ?_
              refine kx_be (t := 19) rfl rfl (fun (m7 : ¬ (0 ≤ nI n ∧ nI n ≤ 20)) => ?_) (fun (m7 : (0 ≤ nI n ∧ nI n ≤ 20)) => ?_)
              · exact absurd ha m7
              · refine kx_st 0 (pc' := 10) (L' := [some (.ref 65), some (.int (nI n)), some (.int b), none, none, none, none]) (st' := []) (h' := kv_wd (kv_up g 64 2 (g 64 2 + 1)) w) rfl ?_
                refine kx_st 3 (pc' := 13) (L' := [some (.ref 65), some (.int (nI n)), some (.int b), none, none, none, none]) (st' := [.int 1, .int 0, .int b]) (h' := kv_wd (kv_up g 64 2 (g 64 2 + 1)) w) rfl ?_
                refine kx_call (z := 130) (as := [.int b, .int 0, .int 1]) (rest := []) (v := some (.int (kx_b (0 ≤ b ∧ b ≤ 1)))) (h1 := kv_wd (kv_up g 64 2 (g 64 2 + 1)) w) rfl (ev_in (d := 898) b 0 1) ?_
                refine kx_st 0 (pc' := 16) (L' := [some (.ref 65), some (.int (nI n)), some (.int b), none, none, none, none]) (st' := [.int (kx_b (0 ≤ b ∧ b ≤ 1))]) (h' := kv_wd (kv_up g 64 2 (g 64 2 + 1)) w) rfl ?_
                refine kx_bn (t := 26) rfl rfl (fun (m16 : (0 ≤ b ∧ b ≤ 1)) => ?_) (fun (m16 : ¬ (0 ≤ b ∧ b ≤ 1)) => ?_)
                · refine kx_st 6 (pc' := 34) (L' := [some (.ref 65), some (.int (nI n)), some (.int b), some (.int (-1)), some (.int 0), some (.int 0), none]) (st' := []) (h' := kv_wd (kv_up g 64 2 (g 64 2 + 1)) w) rfl ?_
                  refine lp_mmiss (d := 794) (g := kv_up g 64 2 (g 64 2 + 1)) hM hKB q0 hm0 n hn60 b (fun g34 x6 r34 => ?_) s 0 _ none (by omega) ⟨fun _ _ _ _ => rfl, fun _ _ => rfl, fun _ _ => rfl⟩
                  rw [c1]
                  refine kx_st 0 (pc' := 101) (L' := [some (.ref 65), some (.int (nI n)), some (.int b), some (.int (-1)), some (.int ((kx_mm t (fun p => kx_bcn (nI (kx_OW F0 F1 s t m K q0 n (kx_wo t p)))) s).2)), some (.int (nI s)), x6]) (st' := []) (h' := kv_wd g34 w) rfl ?_
                  refine kx_st 1 (pc' := 102) (L' := [some (.ref 65), some (.int (nI n)), some (.int b), some (.int (-1)), some (.int ((kx_mm t (fun p => kx_bcn (nI (kx_OW F0 F1 s t m K q0 n (kx_wo t p)))) s).2)), some (.int (nI s)), x6]) (st' := [.int (-1)]) (h' := kv_wd g34 w) rfl ?_
                  refine kx_st 1 (pc' := 105) (L' := [some (.ref 65), some (.int (nI n)), some (.int b), some (.int (-1)), some (.int ((kx_mm t (fun p => kx_bcn (nI (kx_OW F0 F1 s t m K q0 n (kx_wo t p)))) s).2)), some (.int (nI s)), x6]) (st' := []) (h' := kv_wd g34 w) rfl ?_
                  refine kx_st 2 (pc' := 108) (L' := [some (.ref 65), some (.int (nI n)), some (.int b), some (.int (-1)), some (.int ((kx_mm t (fun p => kx_bcn (nI (kx_OW F0 F1 s t m K q0 n (kx_wo t p)))) s).2)), some (.int (nI s)), x6]) (st' := [.int (-1000000002), .ref 65]) (h' := kv_wd g34 w) rfl ?_
                  refine kx_call (z := 131) (as := [.ref 65, .int (-1000000002)]) (rest := []) (v := some (.int (-1000000002))) (h1 := kv_wd (kv_up g34 70 2 (g34 70 2 + 1)) w) rfl (ev_errs (d := 898) (-1000000002) 2 (by decide) (by decide)) ?_
                  refine kx_st 0 (pc' := 111) (L' := [some (.ref 65), some (.int (nI n)), some (.int b), some (.int (-1)), some (.int ((kx_mm t (fun p => kx_bcn (nI (kx_OW F0 F1 s t m K q0 n (kx_wo t p)))) s).2)), some (.int (nI s)), x6]) (st' := [.int (-1000000002)]) (h' := kv_wd (kv_up g34 70 2 (g34 70 2 + 1)) w) rfl ?_
                  refine kx_ret (v := some (.int (-1000000002))) rfl ?_
                  refine ⟨rfl, _, _, rfl, kx_Rl_roe (k := 2) hR rfl (fun b h8 h11 h4 h64 h65 h66 h68 h69 h70 => (by rw [kv_up_ne h70]; exact (r34.1 b h65 h66 h68).trans (by rw [kv_up_ne h64]))) (fun z hz => r34.2.1 z hz) (fun j hj => r34.2.2 j hj) ?_ ?_⟩
                  · show g34 64 = _
                    rw [r34.1 64 (by omega) (by omega) (by omega)]
                    rfl
                  · show upd (g34 70) 2 (g34 70 2 + 1) = _
                    rw [r34.1 70 (by omega) (by omega) (by omega)]
                    rfl
                · exact absurd hc m16
          · exact absurd hc h14
      · have tn : ¬ g 1 1 = 0 := by
          rw [hX.2.1.2.1]
          refine nI_ne0 ?_ (by omega)
          rcases Nat.eq_zero_or_pos t with z | z
          · rw [z, Nat.zero_testBit] at c1; cases c1
          · exact z
        rcases kx_b1 hc with rfl | rfl
        · refine kx_two (by decide) (Nat.le_of_ble_eq_true rfl) (by decide) (Nat.le_of_ble_eq_true rfl) ?_
          refine kx_st 0 (pc' := 0) (L' := [some (.ref 0), some (.int (nI n)), some (.int 0), none]) (st' := []) (h' := kv_wd g w) rfl ?_
          refine kx_st 2 (pc' := 3) (L' := [some (.ref 0), some (.int (nI n)), some (.int 0), none]) (st' := [.int 20, .int (nI n)]) (h' := kv_wd g w) rfl ?_
          refine kx_call (z := 124) (as := [.int (nI n), .int 20]) (rest := []) (v := some (.int (kx_b (0 ≤ nI n ∧ nI n ≤ 20)))) (h1 := kv_wd g w) rfl (ev_within (d := 898) (nI n) 20) ?_
          refine kx_st 0 (pc' := 6) (L' := [some (.ref 0), some (.int (nI n)), some (.int 0), none]) (st' := [.int (kx_b (0 ≤ nI n ∧ nI n ≤ 20))]) (h' := kv_wd g w) rfl ?_
          refine kx_be (t := 17) rfl rfl (fun (h6 : ¬ (0 ≤ nI n ∧ nI n ≤ 20)) => ?_) (fun (h6 : (0 ≤ nI n ∧ nI n ≤ 20)) => ?_)
          · exact absurd ha h6
          · refine kx_st 0 (pc' := 9) (L' := [some (.ref 0), some (.int (nI n)), some (.int 0), none]) (st' := []) (h' := kv_wd g w) rfl ?_
            refine kx_st 2 (pc' := 11) (L' := [some (.ref 0), some (.int (nI n)), some (.int 0), none]) (st' := [.int 1, .int 0]) (h' := kv_wd g w) rfl ?_
            refine kx_call (z := 124) (as := [.int 0, .int 1]) (rest := []) (v := some (.int (kx_b (0 ≤ (0 : Int32) ∧ (0 : Int32) ≤ 1)))) (h1 := kv_wd g w) rfl (ev_within (d := 898) 0 1) ?_
            refine kx_st 0 (pc' := 14) (L' := [some (.ref 0), some (.int (nI n)), some (.int 0), none]) (st' := [.int (kx_b (0 ≤ (0 : Int32) ∧ (0 : Int32) ≤ 1))]) (h' := kv_wd g w) rfl ?_
            refine kx_bn (t := 23) rfl rfl (fun (h14 : (0 ≤ (0 : Int32) ∧ (0 : Int32) ≤ 1)) => ?_) (fun (h14 : ¬ (0 ≤ (0 : Int32) ∧ (0 : Int32) ≤ 1)) => ?_)
            · refine kx_st 3 (pc' := 30) (L' := [some (.ref 0), some (.int (nI n)), some (.int 0), none]) (st' := [.int (g 1 1)]) (h' := kv_wd g w) rfl ?_
              refine kx_bc (t := 39) rfl rfl (fun (h30 : ¬ g 1 1 = 0) => ?_) (fun (h30 : ¬ (¬ g 1 1 = 0)) => ?_)
              · refine kx_st 5 (pc' := 48) (L' := [some (.ref 0), some (.int (nI n)), some (.int 0), none]) (st' := [.int (nI n), .ref 1, .ref 43]) (h' := kv_wd g w) rfl ?_
                obtain ⟨gb, eg, qb, rb⟩ := ev_goBehind (E := E) (d := 891) (w := w) hX q0 hq0 n hn60
                have Xb : kx_X F0 F1 s t m K gb := kx_X_cg (fun b hb => rb b (by omega) (by omega) (by omega) (by omega)) hX
                refine kx_call (z := 60) (as := [.ref 43, .ref 1, .int (nI n)]) (rest := []) (v := none) (h1 := kv_wd gb w) rfl eg ?_
                refine kx_st 0 (pc' := 51) (L' := [some (.ref 0), some (.int (nI n)), some (.int 0), none]) (st' := []) (h' := kv_wd gb w) rfl ?_
                refine kx_st 4 (pc' := 59) (L' := [some (.ref 0), some (.int (nI n)), some (.int 0), none]) (st' := [.ref 1, .ref 43]) (h' := kv_wd gb w) rfl ?_
                obtain ⟨ff, wl, ef, hwl⟩ := ev_findWays (E := E) (d := 890) (g := gb) (wl0 := w.1) (w2 := w.2) Xb q.1 (kx_yn F0 s t n q0) qb (kx_qb_n hF0 hb0 n) hKB
                have Xf : kx_X F0 F1 s t m K (kv_uf gb 11 ff) := kx_X_cg (fun b hb => kv_uf_ne (by omega)) Xb
                have rf : ∀ b, b ≠ 8 → b ≠ 11 → (b < 44 ∨ 52 < b) → (kv_uf gb 11 ff) b = g b := fun b h8 h11 h4 => (kv_uf_ne h11).trans (rb b h8 (by omega) (by omega) (by omega))
                have Mf : kx_M F0 F1 s t m K ((kv_uf gb 11 ff) 66) := by rw [rf 66 (by omega) (by omega) (by omega)]; exact hM
                have mf : kx_hmq ((kv_uf gb 11 ff) 66) q0 := by rw [rf 66 (by omega) (by omega) (by omega)]; exact hm0
                have h64 : t < 64 := Nat.lt_of_lt_of_le hX.1.2.2.1 (Nat.pow_le_pow_right (by omega) a2)
                refine kx_call (z := 66) (as := [.ref 43, .ref 1]) (rest := []) (v := none) (h1 := kv_wd (kv_uf gb 11 ff) (wl, w.2)) rfl ef ?_
                refine kx_st 0 (pc' := 62) (L' := [some (.ref 0), some (.int (nI n)), some (.int 0), none]) (st' := []) (h' := kv_wd (kv_uf gb 11 ff) (wl, w.2)) rfl ?_
                refine kx_st 4 (pc' := 70) (L' := [some (.ref 0), some (.int (nI n)), some (.int 0), none]) (st' := [.ref 1, .ref 43]) (h' := kv_wd (kv_uf gb 11 ff) (wl, w.2)) rfl ?_
                refine kx_call (z := 71) (as := [.ref 43, .ref 1]) (rest := []) (v := some (.int (nI p))) (h1 := kv_wd (kv_uf gb 11 ff) (wl, w.2)) rfl (by have z := ev_mostMissed (E := E) (d := 895) (g := kv_uf gb 11 ff) (w := (wl, w.2)) Xf q hKB q0 n hwl; rw [c2] at z; exact z) ?_
                refine kx_st 0 (pc' := 73) (L' := [some (.ref 0), some (.int (nI n)), some (.int 0), none]) (st' := [.int (nI p)]) (h' := kv_wd (kv_uf gb 11 ff) (wl, w.2)) rfl ?_
                refine kx_st 2 (pc' := 75) (L' := [some (.ref 0), some (.int (nI n)), some (.int 0), some (.int (nI p))]) (st' := [.int 0]) (h' := kv_wd (kv_uf gb 11 ff) (wl, w.2)) rfl ?_
                refine kx_st 1 (pc' := 78) (L' := [some (.ref 0), some (.int (nI n)), some (.int 0), some (.int (nI p))]) (st' := []) (h' := kv_wd (kv_uf gb 11 ff) (wl, w.2)) rfl ?_
                refine kx_st 2 (pc' := 94) (L' := [some (.ref 0), some (.int (nI n)), some (.int 0), some (.int (nI p))]) (st' := [.int (nI p)]) (h' := kv_wd (kv_uf gb 11 ff) (wl, w.2)) rfl ?_
                refine kx_ret (v := some (.int (nI p))) rfl ?_
                refine ⟨_, _, _, rfl, rfl, ?_⟩
                refine kx_st 0 (pc' := 0) (L' := [some (.ref 65), some (.int (nI n)), some (.int 0), none, none, none, none]) (st' := []) (h' := kv_wd (kv_uf gb 11 ff) (wl, w.2)) rfl ?_
                refine kx_st 3 (pc' := 4) (L' := [some (.ref 65), some (.int (nI n)), some (.int 0), none, none, none, none]) (st' := [.int 20, .int 0, .int (nI n)]) (h' := kv_wd (kv_uf gb 11 ff) (wl, w.2)) rfl ?_
                refine kx_call (z := 130) (as := [.int (nI n), .int 0, .int 20]) (rest := []) (v := some (.int (kx_b (0 ≤ nI n ∧ nI n ≤ 20)))) (h1 := kv_wd (kv_uf gb 11 ff) (wl, w.2)) rfl (ev_in (d := 898) (nI n) 0 20) ?_
                refine kx_st 0 (pc' := 7) (L' := [some (.ref 65), some (.int (nI n)), some (.int 0), none, none, none, none]) (st' := [.int (kx_b (0 ≤ nI n ∧ nI n ≤ 20))]) (h' := kv_wd (kv_uf gb 11 ff) (wl, w.2)) rfl ?_
                refine kx_be (t := 19) rfl rfl (fun (m7 : ¬ (0 ≤ nI n ∧ nI n ≤ 20)) => ?_) (fun (m7 : (0 ≤ nI n ∧ nI n ≤ 20)) => ?_)
                · exact absurd ha m7
                · refine kx_st 0 (pc' := 10) (L' := [some (.ref 65), some (.int (nI n)), some (.int 0), none, none, none, none]) (st' := []) (h' := kv_wd (kv_uf gb 11 ff) (wl, w.2)) rfl ?_
                  refine kx_st 3 (pc' := 13) (L' := [some (.ref 65), some (.int (nI n)), some (.int 0), none, none, none, none]) (st' := [.int 1, .int 0, .int 0]) (h' := kv_wd (kv_uf gb 11 ff) (wl, w.2)) rfl ?_
                  refine kx_call (z := 130) (as := [.int 0, .int 0, .int 1]) (rest := []) (v := some (.int (kx_b (0 ≤ (0 : Int32) ∧ (0 : Int32) ≤ 1)))) (h1 := kv_wd (kv_uf gb 11 ff) (wl, w.2)) rfl (ev_in (d := 898) 0 0 1) ?_
                  refine kx_st 0 (pc' := 16) (L' := [some (.ref 65), some (.int (nI n)), some (.int 0), none, none, none, none]) (st' := [.int (kx_b (0 ≤ (0 : Int32) ∧ (0 : Int32) ≤ 1))]) (h' := kv_wd (kv_uf gb 11 ff) (wl, w.2)) rfl ?_
                  refine kx_bn (t := 26) rfl rfl (fun (m16 : (0 ≤ (0 : Int32) ∧ (0 : Int32) ≤ 1)) => ?_) (fun (m16 : ¬ (0 ≤ (0 : Int32) ∧ (0 : Int32) ≤ 1)) => ?_)
                  · refine kx_st 6 (pc' := 34) (L' := [some (.ref 65), some (.int (nI n)), some (.int 0), some (.int (-1)), some (.int 0), some (.int 0), none]) (st' := []) (h' := kv_wd (kv_uf gb 11 ff) (wl, w.2)) rfl ?_
                    refine lp_mmiss (d := 794) (g := kv_uf gb 11 ff) (w := (wl, w.2)) Mf hKB q0 mf n hn60 0 (fun g34 x6 r34 => ?_) s 0 _ none (by omega) ⟨fun _ _ _ _ => rfl, fun _ _ => rfl, fun _ _ => rfl⟩
                    rw [c2]
                    refine kx_st 0 (pc' := 101) (L' := [some (.ref 65), some (.int (nI n)), some (.int 0), some (.int (nI p)), some (.int (kx_bcn (nI (kx_OW F0 F1 s t m K q0 n (kx_wo t p))))), some (.int (nI s)), x6]) (st' := []) (h' := kv_wd g34 (wl, w.2)) rfl ?_
                    refine kx_st 1 (pc' := 102) (L' := [some (.ref 65), some (.int (nI n)), some (.int 0), some (.int (nI p)), some (.int (kx_bcn (nI (kx_OW F0 F1 s t m K q0 n (kx_wo t p))))), some (.int (nI s)), x6]) (st' := [.int (nI p)]) (h' := kv_wd g34 (wl, w.2)) rfl ?_
                    refine kx_bc (t := 112) rfl rfl (fun (m102 : 0 ≤ nI p) => ?_) (fun (m102 : ¬ (0 ≤ nI p)) => ?_)
                    · refine kx_st 1 (pc' := 113) (L' := [some (.ref 65), some (.int (nI n)), some (.int 0), some (.int (nI p)), some (.int (kx_bcn (nI (kx_OW F0 F1 s t m K q0 n (kx_wo t p))))), some (.int (nI s)), x6]) (st' := [.int 0]) (h' := kv_wd g34 (wl, w.2)) rfl ?_
                      refine kx_st 1 (pc' := 116) (L' := [some (.ref 65), some (.int (nI n)), some (.int 0), some (.int (nI p)), some (.int (kx_bcn (nI (kx_OW F0 F1 s t m K q0 n (kx_wo t p))))), some (.int (nI s)), x6]) (st' := []) (h' := kv_wd g34 (wl, w.2)) rfl ?_
                      refine kx_st 2 (pc' := 122) (L' := [some (.ref 65), some (.int (nI n)), some (.int 0), some (.int (nI p)), some (.int (kx_bcn (nI (kx_OW F0 F1 s t m K q0 n (kx_wo t p))))), some (.int (nI s)), x6]) (st' := [.int (nI p)]) (h' := kv_wd g34 (wl, w.2)) rfl ?_
                      refine kx_ret (v := some (.int (nI p))) rfl ?_
                      exact ⟨rfl, _, _, rfl, kx_Rl_skip _ _ _ _ (kx_Rl_ro hR rfl (fun b h8 h11 h4 h65 h66 h68 h69 => (r34.1 b h65 h66 h68).trans (rf b h8 h11 h4)) (fun z hz => (r34.2.1 z hz).trans (congrFun (rf 65 (by omega) (by omega) (by omega)) z)) (fun j hj => (r34.2.2 j hj).trans (congrFun (rf 66 (by omega) (by omega) (by omega)) j)))⟩
                    · exact absurd (nI_pos' (by omega)) m102
                  · exact absurd hc m16
              · exact absurd (Classical.not_not.mp h30) tn
            · exact absurd hc h14
        · refine kx_two (by decide) (Nat.le_of_ble_eq_true rfl) (by decide) (Nat.le_of_ble_eq_true rfl) ?_
          refine kx_st 0 (pc' := 0) (L' := [some (.ref 0), some (.int (nI n)), some (.int 1), none]) (st' := []) (h' := kv_wd g w) rfl ?_
          refine kx_st 2 (pc' := 3) (L' := [some (.ref 0), some (.int (nI n)), some (.int 1), none]) (st' := [.int 20, .int (nI n)]) (h' := kv_wd g w) rfl ?_
          refine kx_call (z := 124) (as := [.int (nI n), .int 20]) (rest := []) (v := some (.int (kx_b (0 ≤ nI n ∧ nI n ≤ 20)))) (h1 := kv_wd g w) rfl (ev_within (d := 898) (nI n) 20) ?_
          refine kx_st 0 (pc' := 6) (L' := [some (.ref 0), some (.int (nI n)), some (.int 1), none]) (st' := [.int (kx_b (0 ≤ nI n ∧ nI n ≤ 20))]) (h' := kv_wd g w) rfl ?_
          refine kx_be (t := 17) rfl rfl (fun (h6 : ¬ (0 ≤ nI n ∧ nI n ≤ 20)) => ?_) (fun (h6 : (0 ≤ nI n ∧ nI n ≤ 20)) => ?_)
          · exact absurd ha h6
          · refine kx_st 0 (pc' := 9) (L' := [some (.ref 0), some (.int (nI n)), some (.int 1), none]) (st' := []) (h' := kv_wd g w) rfl ?_
            refine kx_st 2 (pc' := 11) (L' := [some (.ref 0), some (.int (nI n)), some (.int 1), none]) (st' := [.int 1, .int 1]) (h' := kv_wd g w) rfl ?_
            refine kx_call (z := 124) (as := [.int 1, .int 1]) (rest := []) (v := some (.int (kx_b (0 ≤ (1 : Int32) ∧ (1 : Int32) ≤ 1)))) (h1 := kv_wd g w) rfl (ev_within (d := 898) 1 1) ?_
            refine kx_st 0 (pc' := 14) (L' := [some (.ref 0), some (.int (nI n)), some (.int 1), none]) (st' := [.int (kx_b (0 ≤ (1 : Int32) ∧ (1 : Int32) ≤ 1))]) (h' := kv_wd g w) rfl ?_
            refine kx_bn (t := 23) rfl rfl (fun (h14 : (0 ≤ (1 : Int32) ∧ (1 : Int32) ≤ 1)) => ?_) (fun (h14 : ¬ (0 ≤ (1 : Int32) ∧ (1 : Int32) ≤ 1)) => ?_)
            · refine kx_st 3 (pc' := 30) (L' := [some (.ref 0), some (.int (nI n)), some (.int 1), none]) (st' := [.int (g 1 1)]) (h' := kv_wd g w) rfl ?_
              refine kx_bc (t := 39) rfl rfl (fun (h30 : ¬ g 1 1 = 0) => ?_) (fun (h30 : ¬ (¬ g 1 1 = 0)) => ?_)
              · refine kx_st 5 (pc' := 48) (L' := [some (.ref 0), some (.int (nI n)), some (.int 1), none]) (st' := [.int (nI n), .ref 1, .ref 43]) (h' := kv_wd g w) rfl ?_
                obtain ⟨gb, eg, qb, rb⟩ := ev_goBehind (E := E) (d := 891) (w := w) hX q0 hq0 n hn60
                have Xb : kx_X F0 F1 s t m K gb := kx_X_cg (fun b hb => rb b (by omega) (by omega) (by omega) (by omega)) hX
                refine kx_call (z := 60) (as := [.ref 43, .ref 1, .int (nI n)]) (rest := []) (v := none) (h1 := kv_wd gb w) rfl eg ?_
                refine kx_st 0 (pc' := 51) (L' := [some (.ref 0), some (.int (nI n)), some (.int 1), none]) (st' := []) (h' := kv_wd gb w) rfl ?_
                refine kx_st 4 (pc' := 59) (L' := [some (.ref 0), some (.int (nI n)), some (.int 1), none]) (st' := [.ref 1, .ref 43]) (h' := kv_wd gb w) rfl ?_
                obtain ⟨ff, wl, ef, hwl⟩ := ev_findWays (E := E) (d := 890) (g := gb) (wl0 := w.1) (w2 := w.2) Xb q.1 (kx_yn F0 s t n q0) qb (kx_qb_n hF0 hb0 n) hKB
                have Xf : kx_X F0 F1 s t m K (kv_uf gb 11 ff) := kx_X_cg (fun b hb => kv_uf_ne (by omega)) Xb
                have rf : ∀ b, b ≠ 8 → b ≠ 11 → (b < 44 ∨ 52 < b) → (kv_uf gb 11 ff) b = g b := fun b h8 h11 h4 => (kv_uf_ne h11).trans (rb b h8 (by omega) (by omega) (by omega))
                have Mf : kx_M F0 F1 s t m K ((kv_uf gb 11 ff) 66) := by rw [rf 66 (by omega) (by omega) (by omega)]; exact hM
                have mf : kx_hmq ((kv_uf gb 11 ff) 66) q0 := by rw [rf 66 (by omega) (by omega) (by omega)]; exact hm0
                have h64 : t < 64 := Nat.lt_of_lt_of_le hX.1.2.2.1 (Nat.pow_le_pow_right (by omega) a2)
                refine kx_call (z := 66) (as := [.ref 43, .ref 1]) (rest := []) (v := none) (h1 := kv_wd (kv_uf gb 11 ff) (wl, w.2)) rfl ef ?_
                refine kx_st 0 (pc' := 62) (L' := [some (.ref 0), some (.int (nI n)), some (.int 1), none]) (st' := []) (h' := kv_wd (kv_uf gb 11 ff) (wl, w.2)) rfl ?_
                refine kx_st 4 (pc' := 70) (L' := [some (.ref 0), some (.int (nI n)), some (.int 1), none]) (st' := [.ref 1, .ref 43]) (h' := kv_wd (kv_uf gb 11 ff) (wl, w.2)) rfl ?_
                refine kx_call (z := 71) (as := [.ref 43, .ref 1]) (rest := []) (v := some (.int (nI p))) (h1 := kv_wd (kv_uf gb 11 ff) (wl, w.2)) rfl (by have z := ev_mostMissed (E := E) (d := 895) (g := kv_uf gb 11 ff) (w := (wl, w.2)) Xf q hKB q0 n hwl; rw [c2] at z; exact z) ?_
                refine kx_st 0 (pc' := 73) (L' := [some (.ref 0), some (.int (nI n)), some (.int 1), none]) (st' := [.int (nI p)]) (h' := kv_wd (kv_uf gb 11 ff) (wl, w.2)) rfl ?_
                refine kx_st 2 (pc' := 75) (L' := [some (.ref 0), some (.int (nI n)), some (.int 1), some (.int (nI p))]) (st' := [.int 1]) (h' := kv_wd (kv_uf gb 11 ff) (wl, w.2)) rfl ?_
                refine kx_st 1 (pc' := 82) (L' := [some (.ref 0), some (.int (nI n)), some (.int 1), some (.int (nI p))]) (st' := []) (h' := kv_wd (kv_uf gb 11 ff) (wl, w.2)) rfl ?_
                refine kx_st 5 (pc' := 91) (L' := [some (.ref 0), some (.int (nI n)), some (.int 1), some (.int (nI p))]) (st' := [.int (nI p), .ref 1, .ref 43]) (h' := kv_wd (kv_uf gb 11 ff) (wl, w.2)) rfl ?_
                refine kx_call (z := 70) (as := [.ref 43, .ref 1, .int (nI p)]) (rest := []) (v := some (.int (kx_bcn (nI (kx_OW F0 F1 s t m K q0 n (kx_wo t p)))))) (h1 := kv_wd (kv_uf gb 11 ff) (wl, w.2)) rfl (ev_openWithout (d := 896) (g := kv_uf gb 11 ff) (w := (wl, w.2)) Xf q hKB q0 n hwl p hps) ?_
                refine kx_st 0 (pc' := 94) (L' := [some (.ref 0), some (.int (nI n)), some (.int 1), some (.int (nI p))]) (st' := [.int (kx_bcn (nI (kx_OW F0 F1 s t m K q0 n (kx_wo t p))))]) (h' := kv_wd (kv_uf gb 11 ff) (wl, w.2)) rfl ?_
                refine kx_ret (v := some (.int (kx_bcn (nI (kx_OW F0 F1 s t m K q0 n (kx_wo t p)))))) rfl ?_
                refine ⟨_, _, _, rfl, rfl, ?_⟩
                refine kx_st 0 (pc' := 0) (L' := [some (.ref 65), some (.int (nI n)), some (.int 1), none, none, none, none]) (st' := []) (h' := kv_wd (kv_uf gb 11 ff) (wl, w.2)) rfl ?_
                refine kx_st 3 (pc' := 4) (L' := [some (.ref 65), some (.int (nI n)), some (.int 1), none, none, none, none]) (st' := [.int 20, .int 0, .int (nI n)]) (h' := kv_wd (kv_uf gb 11 ff) (wl, w.2)) rfl ?_
                refine kx_call (z := 130) (as := [.int (nI n), .int 0, .int 20]) (rest := []) (v := some (.int (kx_b (0 ≤ nI n ∧ nI n ≤ 20)))) (h1 := kv_wd (kv_uf gb 11 ff) (wl, w.2)) rfl (ev_in (d := 898) (nI n) 0 20) ?_
                refine kx_st 0 (pc' := 7) (L' := [some (.ref 65), some (.int (nI n)), some (.int 1), none, none, none, none]) (st' := [.int (kx_b (0 ≤ nI n ∧ nI n ≤ 20))]) (h' := kv_wd (kv_uf gb 11 ff) (wl, w.2)) rfl ?_
                refine kx_be (t := 19) rfl rfl (fun (m7 : ¬ (0 ≤ nI n ∧ nI n ≤ 20)) => ?_) (fun (m7 : (0 ≤ nI n ∧ nI n ≤ 20)) => ?_)
                · exact absurd ha m7
                · refine kx_st 0 (pc' := 10) (L' := [some (.ref 65), some (.int (nI n)), some (.int 1), none, none, none, none]) (st' := []) (h' := kv_wd (kv_uf gb 11 ff) (wl, w.2)) rfl ?_
                  refine kx_st 3 (pc' := 13) (L' := [some (.ref 65), some (.int (nI n)), some (.int 1), none, none, none, none]) (st' := [.int 1, .int 0, .int 1]) (h' := kv_wd (kv_uf gb 11 ff) (wl, w.2)) rfl ?_
                  refine kx_call (z := 130) (as := [.int 1, .int 0, .int 1]) (rest := []) (v := some (.int (kx_b (0 ≤ (1 : Int32) ∧ (1 : Int32) ≤ 1)))) (h1 := kv_wd (kv_uf gb 11 ff) (wl, w.2)) rfl (ev_in (d := 898) 1 0 1) ?_
                  refine kx_st 0 (pc' := 16) (L' := [some (.ref 65), some (.int (nI n)), some (.int 1), none, none, none, none]) (st' := [.int (kx_b (0 ≤ (1 : Int32) ∧ (1 : Int32) ≤ 1))]) (h' := kv_wd (kv_uf gb 11 ff) (wl, w.2)) rfl ?_
                  refine kx_bn (t := 26) rfl rfl (fun (m16 : (0 ≤ (1 : Int32) ∧ (1 : Int32) ≤ 1)) => ?_) (fun (m16 : ¬ (0 ≤ (1 : Int32) ∧ (1 : Int32) ≤ 1)) => ?_)
                  · refine kx_st 6 (pc' := 34) (L' := [some (.ref 65), some (.int (nI n)), some (.int 1), some (.int (-1)), some (.int 0), some (.int 0), none]) (st' := []) (h' := kv_wd (kv_uf gb 11 ff) (wl, w.2)) rfl ?_
                    refine lp_mmiss (d := 794) (g := kv_uf gb 11 ff) (w := (wl, w.2)) Mf hKB q0 mf n hn60 1 (fun g34 x6 r34 => ?_) s 0 _ none (by omega) ⟨fun _ _ _ _ => rfl, fun _ _ => rfl, fun _ _ => rfl⟩
                    rw [c2]
                    refine kx_st 0 (pc' := 101) (L' := [some (.ref 65), some (.int (nI n)), some (.int 1), some (.int (nI p)), some (.int (kx_bcn (nI (kx_OW F0 F1 s t m K q0 n (kx_wo t p))))), some (.int (nI s)), x6]) (st' := []) (h' := kv_wd g34 (wl, w.2)) rfl ?_
                    refine kx_st 1 (pc' := 102) (L' := [some (.ref 65), some (.int (nI n)), some (.int 1), some (.int (nI p)), some (.int (kx_bcn (nI (kx_OW F0 F1 s t m K q0 n (kx_wo t p))))), some (.int (nI s)), x6]) (st' := [.int (nI p)]) (h' := kv_wd g34 (wl, w.2)) rfl ?_
                    refine kx_bc (t := 112) rfl rfl (fun (m102 : 0 ≤ nI p) => ?_) (fun (m102 : ¬ (0 ≤ nI p)) => ?_)
                    · refine kx_st 1 (pc' := 113) (L' := [some (.ref 65), some (.int (nI n)), some (.int 1), some (.int (nI p)), some (.int (kx_bcn (nI (kx_OW F0 F1 s t m K q0 n (kx_wo t p))))), some (.int (nI s)), x6]) (st' := [.int 1]) (h' := kv_wd g34 (wl, w.2)) rfl ?_
                      refine kx_st 1 (pc' := 120) (L' := [some (.ref 65), some (.int (nI n)), some (.int 1), some (.int (nI p)), some (.int (kx_bcn (nI (kx_OW F0 F1 s t m K q0 n (kx_wo t p))))), some (.int (nI s)), x6]) (st' := []) (h' := kv_wd g34 (wl, w.2)) rfl ?_
                      refine kx_st 1 (pc' := 122) (L' := [some (.ref 65), some (.int (nI n)), some (.int 1), some (.int (nI p)), some (.int (kx_bcn (nI (kx_OW F0 F1 s t m K q0 n (kx_wo t p))))), some (.int (nI s)), x6]) (st' := [.int (kx_bcn (nI (kx_OW F0 F1 s t m K q0 n (kx_wo t p))))]) (h' := kv_wd g34 (wl, w.2)) rfl ?_
                      refine kx_ret (v := some (.int (kx_bcn (nI (kx_OW F0 F1 s t m K q0 n (kx_wo t p)))))) rfl ?_
                      exact ⟨rfl, _, _, rfl, kx_Rl_skip _ _ _ _ (kx_Rl_ro hR rfl (fun b h8 h11 h4 h65 h66 h68 h69 => (r34.1 b h65 h66 h68).trans (rf b h8 h11 h4)) (fun z hz => (r34.2.1 z hz).trans (congrFun (rf 65 (by omega) (by omega) (by omega)) z)) (fun j hj => (r34.2.2 j hj).trans (congrFun (rf 66 (by omega) (by omega) (by omega)) j)))⟩
                    · exact absurd (nI_pos' (by omega)) m102
                  · exact absurd hc m16
              · exact absurd (Classical.not_not.mp h30) tn
            · exact absurd hc h14
    · refine kx_two (by decide) (Nat.le_of_ble_eq_true rfl) (by decide) (Nat.le_of_ble_eq_true rfl) ?_
      refine kx_st 0 (pc' := 0) (L' := [some (.ref 0), some (.int a), some (.int b), none]) (st' := []) (h' := kv_wd g w) rfl ?_
      refine kx_st 2 (pc' := 3) (L' := [some (.ref 0), some (.int a), some (.int b), none]) (st' := [.int 20, .int a]) (h' := kv_wd g w) rfl ?_
      refine kx_call (z := 124) (as := [.int a, .int 20]) (rest := []) (v := some (.int (kx_b (0 ≤ a ∧ a ≤ 20)))) (h1 := kv_wd g w) rfl (ev_within (d := 898) a 20) ?_
      refine kx_st 0 (pc' := 6) (L' := [some (.ref 0), some (.int a), some (.int b), none]) (st' := [.int (kx_b (0 ≤ a ∧ a ≤ 20))]) (h' := kv_wd g w) rfl ?_
      refine kx_be (t := 17) rfl rfl (fun (h6 : ¬ (0 ≤ a ∧ a ≤ 20)) => ?_) (fun (h6 : (0 ≤ a ∧ a ≤ 20)) => ?_)
      · exact absurd ha h6
      · refine kx_st 0 (pc' := 9) (L' := [some (.ref 0), some (.int a), some (.int b), none]) (st' := []) (h' := kv_wd g w) rfl ?_
        refine kx_st 2 (pc' := 11) (L' := [some (.ref 0), some (.int a), some (.int b), none]) (st' := [.int 1, .int b]) (h' := kv_wd g w) rfl ?_
        refine kx_call (z := 124) (as := [.int b, .int 1]) (rest := []) (v := some (.int (kx_b (0 ≤ b ∧ b ≤ 1)))) (h1 := kv_wd g w) rfl (ev_within (d := 898) b 1) ?_
        refine kx_st 0 (pc' := 14) (L' := [some (.ref 0), some (.int a), some (.int b), none]) (st' := [.int (kx_b (0 ≤ b ∧ b ≤ 1))]) (h' := kv_wd g w) rfl ?_
        refine kx_bn (t := 23) rfl rfl (fun (h14 : (0 ≤ b ∧ b ≤ 1)) => ?_) (fun (h14 : ¬ (0 ≤ b ∧ b ≤ 1)) => ?_)
        · exact absurd h14 hc
        · refine kx_st 0 (pc' := 17) (L' := [some (.ref 0), some (.int a), some (.int b), none]) (st' := []) (h' := kv_wd g w) rfl ?_
          refine kx_st 2 (pc' := 19) (L' := [some (.ref 0), some (.int a), some (.int b), none]) (st' := [.int 1, .ref 0]) (h' := kv_wd g w) rfl ?_
          refine kx_call (z := 123) (as := [.ref 0, .int 1]) (rest := []) (v := some (.int (-1000000000 - nI 1))) (h1 := kv_wd (kv_up g 64 1 (g 64 1 + 1)) w) rfl (ev_error (d := 898) 1 (by decide) (by decide)) ?_
          refine kx_st 0 (pc' := 22) (L' := [some (.ref 0), some (.int a), some (.int b), none]) (st' := [.int (-1000000000 - nI 1)]) (h' := kv_wd (kv_up g 64 1 (g 64 1 + 1)) w) rfl ?_
          refine kx_ret (v := some (.int (-1000000000 - nI 1))) rfl ?_
          refine ⟨_, _, _, rfl, rfl, ?_⟩
          refine kx_st 0 (pc' := 0) (L' := [some (.ref 65), some (.int a), some (.int b), none, none, none, none]) (st' := []) (h' := kv_wd (kv_up g 64 1 (g 64 1 + 1)) w) rfl ?_
          refine kx_st 3 (pc' := 4) (L' := [some (.ref 65), some (.int a), some (.int b), none, none, none, none]) (st' := [.int 20, .int 0, .int a]) (h' := kv_wd (kv_up g 64 1 (g 64 1 + 1)) w) rfl ?_
          refine kx_call (z := 130) (as := [.int a, .int 0, .int 20]) (rest := []) (v := some (.int (kx_b (0 ≤ a ∧ a ≤ 20)))) (h1 := kv_wd (kv_up g 64 1 (g 64 1 + 1)) w) rfl (ev_in (d := 898) a 0 20) ?_
          refine kx_st 0 (pc' := 7) (L' := [some (.ref 65), some (.int a), some (.int b), none, none, none, none]) (st' := [.int (kx_b (0 ≤ a ∧ a ≤ 20))]) (h' := kv_wd (kv_up g 64 1 (g 64 1 + 1)) w) rfl ?_
          refine kx_be (t := 19) rfl rfl (fun (m7 : ¬ (0 ≤ a ∧ a ≤ 20)) => ?_) (fun (m7 : (0 ≤ a ∧ a ≤ 20)) => ?_)
          · exact absurd ha m7
          · refine kx_st 0 (pc' := 10) (L' := [some (.ref 65), some (.int a), some (.int b), none, none, none, none]) (st' := []) (h' := kv_wd (kv_up g 64 1 (g 64 1 + 1)) w) rfl ?_
            refine kx_st 3 (pc' := 13) (L' := [some (.ref 65), some (.int a), some (.int b), none, none, none, none]) (st' := [.int 1, .int 0, .int b]) (h' := kv_wd (kv_up g 64 1 (g 64 1 + 1)) w) rfl ?_
            refine kx_call (z := 130) (as := [.int b, .int 0, .int 1]) (rest := []) (v := some (.int (kx_b (0 ≤ b ∧ b ≤ 1)))) (h1 := kv_wd (kv_up g 64 1 (g 64 1 + 1)) w) rfl (ev_in (d := 898) b 0 1) ?_
            refine kx_st 0 (pc' := 16) (L' := [some (.ref 65), some (.int a), some (.int b), none, none, none, none]) (st' := [.int (kx_b (0 ≤ b ∧ b ≤ 1))]) (h' := kv_wd (kv_up g 64 1 (g 64 1 + 1)) w) rfl ?_
            refine kx_bn (t := 26) rfl rfl (fun (m16 : (0 ≤ b ∧ b ≤ 1)) => ?_) (fun (m16 : ¬ (0 ≤ b ∧ b ≤ 1)) => ?_)
            · exact absurd m16 hc
            · refine kx_st 0 (pc' := 19) (L' := [some (.ref 65), some (.int a), some (.int b), none, none, none, none]) (st' := []) (h' := kv_wd (kv_up g 64 1 (g 64 1 + 1)) w) rfl ?_
              refine kx_st 2 (pc' := 22) (L' := [some (.ref 65), some (.int a), some (.int b), none, none, none, none]) (st' := [.int (-1000000001), .ref 65]) (h' := kv_wd (kv_up g 64 1 (g 64 1 + 1)) w) rfl ?_
              refine kx_call (z := 131) (as := [.ref 65, .int (-1000000001)]) (rest := []) (v := some (.int (-1000000001))) (h1 := kv_wd (kv_up (kv_up g 64 1 (g 64 1 + 1)) 70 1 ((kv_up g 64 1 (g 64 1 + 1)) 70 1 + 1)) w) rfl (ev_errs (d := 898) (-1000000001) 1 (by decide) (by decide)) ?_
              refine kx_st 0 (pc' := 25) (L' := [some (.ref 65), some (.int a), some (.int b), none, none, none, none]) (st' := [.int (-1000000001)]) (h' := kv_wd (kv_up (kv_up g 64 1 (g 64 1 + 1)) 70 1 ((kv_up g 64 1 (g 64 1 + 1)) 70 1 + 1)) w) rfl ?_
              refine kx_ret (v := some (.int (-1000000001))) rfl ?_
              exact ⟨rfl, _, _, rfl, kx_Rl_e hR⟩
  · refine kx_two (by decide) (Nat.le_of_ble_eq_true rfl) (by decide) (Nat.le_of_ble_eq_true rfl) ?_
    refine kx_st 0 (pc' := 0) (L' := [some (.ref 0), some (.int a), some (.int b), none]) (st' := []) (h' := kv_wd g w) rfl ?_
    refine kx_st 2 (pc' := 3) (L' := [some (.ref 0), some (.int a), some (.int b), none]) (st' := [.int 20, .int a]) (h' := kv_wd g w) rfl ?_
    refine kx_call (z := 124) (as := [.int a, .int 20]) (rest := []) (v := some (.int (kx_b (0 ≤ a ∧ a ≤ 20)))) (h1 := kv_wd g w) rfl (ev_within (d := 898) a 20) ?_
    refine kx_st 0 (pc' := 6) (L' := [some (.ref 0), some (.int a), some (.int b), none]) (st' := [.int (kx_b (0 ≤ a ∧ a ≤ 20))]) (h' := kv_wd g w) rfl ?_
    refine kx_be (t := 17) rfl rfl (fun (h6 : ¬ (0 ≤ a ∧ a ≤ 20)) => ?_) (fun (h6 : (0 ≤ a ∧ a ≤ 20)) => ?_)
    · refine kx_st 2 (pc' := 19) (L' := [some (.ref 0), some (.int a), some (.int b), none]) (st' := [.int 1, .ref 0]) (h' := kv_wd g w) rfl ?_
      refine kx_call (z := 123) (as := [.ref 0, .int 1]) (rest := []) (v := some (.int (-1000000000 - nI 1))) (h1 := kv_wd (kv_up g 64 1 (g 64 1 + 1)) w) rfl (ev_error (d := 898) 1 (by decide) (by decide)) ?_
      refine kx_st 0 (pc' := 22) (L' := [some (.ref 0), some (.int a), some (.int b), none]) (st' := [.int (-1000000000 - nI 1)]) (h' := kv_wd (kv_up g 64 1 (g 64 1 + 1)) w) rfl ?_
      refine kx_ret (v := some (.int (-1000000000 - nI 1))) rfl ?_
      refine ⟨_, _, _, rfl, rfl, ?_⟩
      refine kx_st 0 (pc' := 0) (L' := [some (.ref 65), some (.int a), some (.int b), none, none, none, none]) (st' := []) (h' := kv_wd (kv_up g 64 1 (g 64 1 + 1)) w) rfl ?_
      refine kx_st 3 (pc' := 4) (L' := [some (.ref 65), some (.int a), some (.int b), none, none, none, none]) (st' := [.int 20, .int 0, .int a]) (h' := kv_wd (kv_up g 64 1 (g 64 1 + 1)) w) rfl ?_
      refine kx_call (z := 130) (as := [.int a, .int 0, .int 20]) (rest := []) (v := some (.int (kx_b (0 ≤ a ∧ a ≤ 20)))) (h1 := kv_wd (kv_up g 64 1 (g 64 1 + 1)) w) rfl (ev_in (d := 898) a 0 20) ?_
      refine kx_st 0 (pc' := 7) (L' := [some (.ref 65), some (.int a), some (.int b), none, none, none, none]) (st' := [.int (kx_b (0 ≤ a ∧ a ≤ 20))]) (h' := kv_wd (kv_up g 64 1 (g 64 1 + 1)) w) rfl ?_
      refine kx_be (t := 19) rfl rfl (fun (m7 : ¬ (0 ≤ a ∧ a ≤ 20)) => ?_) (fun (m7 : (0 ≤ a ∧ a ≤ 20)) => ?_)
      · refine kx_st 2 (pc' := 22) (L' := [some (.ref 65), some (.int a), some (.int b), none, none, none, none]) (st' := [.int (-1000000001), .ref 65]) (h' := kv_wd (kv_up g 64 1 (g 64 1 + 1)) w) rfl ?_
        refine kx_call (z := 131) (as := [.ref 65, .int (-1000000001)]) (rest := []) (v := some (.int (-1000000001))) (h1 := kv_wd (kv_up (kv_up g 64 1 (g 64 1 + 1)) 70 1 ((kv_up g 64 1 (g 64 1 + 1)) 70 1 + 1)) w) rfl (ev_errs (d := 898) (-1000000001) 1 (by decide) (by decide)) ?_
        refine kx_st 0 (pc' := 25) (L' := [some (.ref 65), some (.int a), some (.int b), none, none, none, none]) (st' := [.int (-1000000001)]) (h' := kv_wd (kv_up (kv_up g 64 1 (g 64 1 + 1)) 70 1 ((kv_up g 64 1 (g 64 1 + 1)) 70 1 + 1)) w) rfl ?_
        refine kx_ret (v := some (.int (-1000000001))) rfl ?_
        exact ⟨rfl, _, _, rfl, kx_Rl_e hR⟩
      · exact absurd m7 ha
    · exact absurd h6 ha
theorem kx_sub1 : ∀ x, x < 64 → ∀ t, t < 64 → (nI t &&& (nI x ^^^ (-1))) = nI (t &&& (63 ^^^ x)) := by decide +kernel
theorem kx_sub2 : ∀ x, x < 64 → ∀ t, t < 64 → (nI x &&& (nI t ^^^ (-1))) = 0 → ∀ p, p < 6 → x.testBit p = (t.testBit p && !(t &&& (63 ^^^ x)).testBit p) := by decide +kernel
/-- the best of the sets from t down -/
def kx_kb (t : Nat) (want : Int32) (O : Nat → Int32) : Nat → Nat
  | 0 => t
  | k + 1 => if (nI (t - k) &&& (nI t ^^^ (-1))) = 0 ∧ kx_bcn (nI (t - k)) ≤ kx_bcn (nI (kx_kb t want O k)) ∧ O (t - k) = want then t - k else kx_kb t want O k
theorem kx_kb_y {t : Nat} {want : Int32} {O : Nat → Int32} {k x : Nat} (hx : t - k = x) (h1 : (nI x &&& (nI t ^^^ (-1))) = 0) (h2 : kx_bcn (nI x) ≤ kx_bcn (nI (kx_kb t want O k))) (h3 : O x = want) : kx_kb t want O (k + 1) = x := by
  subst hx; exact if_pos ⟨h1, h2, h3⟩
theorem kx_kb_n {t : Nat} {want : Int32} {O : Nat → Int32} {k x : Nat} (hx : t - k = x) (h : ¬ ((nI x &&& (nI t ^^^ (-1))) = 0 ∧ kx_bcn (nI x) ≤ kx_bcn (nI (kx_kb t want O k)) ∧ O x = want)) : kx_kb t want O (k + 1) = kx_kb t want O k := by
  subst hx; exact if_neg h
theorem kx_kb_lt {t : Nat} {want : Int32} {O : Nat → Int32} (ht : t < 64) : ∀ k, kx_kb t want O k < 64
  | 0 => ht
  | k + 1 => by
    unfold kx_kb
    split
    · omega
    · exact kx_kb_lt ht k
theorem kx_dn2 {t k : Nat} (h : k ≤ t) (ht : t < 64) : (if k + 1 = t + 1 then (-1 : Int32) else nI (t - (k + 1))) = nI (t - k) + -1 := by
  by_cases hk : k = t
  · subst hk; rw [if_pos rfl, Nat.sub_self]; rfl
  · rw [if_neg (by omega), show t - k = (t - (k + 1)) + 1 by omega, nI_succ]; grind
set_option maxRecDepth 100000 in
theorem lp_kept {E : kv_V} {d : Nat} {g : kv_S} {w : kv_W} {F0 F1 : kx_FF} {s t m : Nat} {K : Nat → Nat → Int32} (hX : kx_X F0 F1 s t m K g) (hw : kv_qok w) (hKB : ∀ k, k < m → kx_K s k (K k) (K k)) (q0 : kx_Q) (hwl : ∀ j, j < m → w.1 j = kx_lf (fun a b => decide (a < s) && decide (kx_lsn F1 (kx_yn F0 s t 0 q0) (K j) a b ∨ kx_lsn F1 (kx_yn F0 s t 0 q0) (K j) b a)) 36) {P : Option Value → kv_H → Prop} (hP : P (some (.int (nI (kx_kb t (kx_bcn (nI (kx_OW F0 F1 s t m K q0 0 t))) (fun x => kx_bcn (nI (kx_OW F0 F1 s t m K q0 0 x))) (t + 1))))) (kv_wd g w)) : ∀ (nz k : Nat) (x5 : Option Value), k + nz = t + 1 → kx_V E (d + 2) 72 24 [some (.ref 43), some (.ref 1), some (.int (kx_bcn (nI (kx_OW F0 F1 s t m K q0 0 t)))), some (.int (nI (kx_kb t (kx_bcn (nI (kx_OW F0 F1 s t m K q0 0 t))) (fun x => kx_bcn (nI (kx_OW F0 F1 s t m K q0 0 x))) k))), some (.int (if k = t + 1 then -1 else nI (t - k))), x5] [] (kv_wd g w) P := by
  have s6 := hX.1.2.1
  have h64 : t < 64 := Nat.lt_of_lt_of_le hX.1.2.2.1 (Nat.pow_le_pow_right (by omega) s6)
  intro nz
  induction nz with
  | zero =>
    intro k x5 hk
    have hkN : k = t + 1 := by omega
    subst hkN
    rw [if_pos rfl]
    refine kx_st 1 (pc' := 26) (L' := [some (.ref 43), some (.ref 1), some (.int (kx_bcn (nI (kx_OW F0 F1 s t m K q0 0 t)))), some (.int (nI (kx_kb t (kx_bcn (nI (kx_OW F0 F1 s t m K q0 0 t))) (fun x => kx_bcn (nI (kx_OW F0 F1 s t m K q0 0 x))) (t + 1)))), some (.int (-1)), x5]) (st' := [.int (-1)]) (h' := kv_wd g w) rfl ?_
    refine kx_st 1 (pc' := 88) (L' := [some (.ref 43), some (.ref 1), some (.int (kx_bcn (nI (kx_OW F0 F1 s t m K q0 0 t)))), some (.int (nI (kx_kb t (kx_bcn (nI (kx_OW F0 F1 s t m K q0 0 t))) (fun x => kx_bcn (nI (kx_OW F0 F1 s t m K q0 0 x))) (t + 1)))), some (.int (-1)), x5]) (st' := []) (h' := kv_wd g w) rfl ?_
    refine kx_st 1 (pc' := 89) (L' := [some (.ref 43), some (.ref 1), some (.int (kx_bcn (nI (kx_OW F0 F1 s t m K q0 0 t)))), some (.int (nI (kx_kb t (kx_bcn (nI (kx_OW F0 F1 s t m K q0 0 t))) (fun x => kx_bcn (nI (kx_OW F0 F1 s t m K q0 0 x))) (t + 1)))), some (.int (-1)), x5]) (st' := [.int (nI (kx_kb t (kx_bcn (nI (kx_OW F0 F1 s t m K q0 0 t))) (fun x => kx_bcn (nI (kx_OW F0 F1 s t m K q0 0 x))) (t + 1)))]) (h' := kv_wd g w) rfl ?_
    refine kx_ret (v := some (.int (nI (kx_kb t (kx_bcn (nI (kx_OW F0 F1 s t m K q0 0 t))) (fun x => kx_bcn (nI (kx_OW F0 F1 s t m K q0 0 x))) (t + 1))))) rfl ?_
    exact hP
  | succ nz ih =>
    intro k x5 hk
    rw [if_neg (by omega)]
    obtain ⟨x, ex⟩ : ∃ x, x = t - k := ⟨_, rfl⟩
    rw [← ex]
    refine kx_st 1 (pc' := 26) (L' := [some (.ref 43), some (.ref 1), some (.int (kx_bcn (nI (kx_OW F0 F1 s t m K q0 0 t)))), some (.int (nI (kx_kb t (kx_bcn (nI (kx_OW F0 F1 s t m K q0 0 t))) (fun x => kx_bcn (nI (kx_OW F0 F1 s t m K q0 0 x))) k))), some (.int (nI x)), x5]) (st' := [.int (nI x)]) (h' := kv_wd g w) rfl ?_
    refine kx_bc (t := 88) rfl rfl (fun (h26 : nI x < 0) => ?_) (fun (h26 : ¬ (nI x < 0)) => ?_)
    · exact absurd h26 (nI_pos (by omega))
    · refine kx_st 0 (pc' := 29) (L' := [some (.ref 43), some (.ref 1), some (.int (kx_bcn (nI (kx_OW F0 F1 s t m K q0 0 t)))), some (.int (nI (kx_kb t (kx_bcn (nI (kx_OW F0 F1 s t m K q0 0 t))) (fun x => kx_bcn (nI (kx_OW F0 F1 s t m K q0 0 x))) k))), some (.int (nI x)), x5]) (st' := []) (h' := kv_wd g w) rfl ?_
      refine kx_st 1 (pc' := 31) (L' := [some (.ref 43), some (.ref 1), some (.int (kx_bcn (nI (kx_OW F0 F1 s t m K q0 0 t)))), some (.int (nI (kx_kb t (kx_bcn (nI (kx_OW F0 F1 s t m K q0 0 t))) (fun x => kx_bcn (nI (kx_OW F0 F1 s t m K q0 0 x))) k))), some (.int (nI x)), x5]) (st' := [.int (nI x)]) (h' := kv_wd g w) rfl ?_
      refine kx_call (z := 222) (as := [.int (nI x)]) (rest := []) (v := some (.int (kx_bcn (nI x)))) (h1 := kv_wd g w) rfl (ev_bitCount (d := d + 1) _) ?_
      refine kx_st 0 (pc' := 34) (L' := [some (.ref 43), some (.ref 1), some (.int (kx_bcn (nI (kx_OW F0 F1 s t m K q0 0 t)))), some (.int (nI (kx_kb t (kx_bcn (nI (kx_OW F0 F1 s t m K q0 0 t))) (fun x => kx_bcn (nI (kx_OW F0 F1 s t m K q0 0 x))) k))), some (.int (nI x)), x5]) (st' := [.int (kx_bcn (nI x))]) (h' := kv_wd g w) rfl ?_
      refine kx_st 1 (pc' := 35) (L' := [some (.ref 43), some (.ref 1), some (.int (kx_bcn (nI (kx_OW F0 F1 s t m K q0 0 t)))), some (.int (nI (kx_kb t (kx_bcn (nI (kx_OW F0 F1 s t m K q0 0 t))) (fun x => kx_bcn (nI (kx_OW F0 F1 s t m K q0 0 x))) k))), some (.int (nI x)), x5]) (st' := [.int (nI (kx_kb t (kx_bcn (nI (kx_OW F0 F1 s t m K q0 0 t))) (fun x => kx_bcn (nI (kx_OW F0 F1 s t m K q0 0 x))) k)), .int (kx_bcn (nI x))]) (h' := kv_wd g w) rfl ?_
      refine kx_call (z := 222) (as := [.int (nI (kx_kb t (kx_bcn (nI (kx_OW F0 F1 s t m K q0 0 t))) (fun x => kx_bcn (nI (kx_OW F0 F1 s t m K q0 0 x))) k))]) (rest := [.int (kx_bcn (nI x))]) (v := some (.int (kx_bcn (nI (kx_kb t (kx_bcn (nI (kx_OW F0 F1 s t m K q0 0 t))) (fun x => kx_bcn (nI (kx_OW F0 F1 s t m K q0 0 x))) k))))) (h1 := kv_wd g w) rfl (ev_bitCount (d := d + 1) _) ?_
      refine kx_st 0 (pc' := 38) (L' := [some (.ref 43), some (.ref 1), some (.int (kx_bcn (nI (kx_OW F0 F1 s t m K q0 0 t)))), some (.int (nI (kx_kb t (kx_bcn (nI (kx_OW F0 F1 s t m K q0 0 t))) (fun x => kx_bcn (nI (kx_OW F0 F1 s t m K q0 0 x))) k))), some (.int (nI x)), x5]) (st' := [.int (kx_bcn (nI (kx_kb t (kx_bcn (nI (kx_OW F0 F1 s t m K q0 0 t))) (fun x => kx_bcn (nI (kx_OW F0 F1 s t m K q0 0 x))) k))), .int (kx_bcn (nI x))]) (h' := kv_wd g w) rfl ?_
      refine kx_bi (t := 45) rfl rfl (fun (h38 : kx_bcn (nI (kx_kb t (kx_bcn (nI (kx_OW F0 F1 s t m K q0 0 t))) (fun x => kx_bcn (nI (kx_OW F0 F1 s t m K q0 0 x))) k)) < kx_bcn (nI x)) => ?_) (fun (h38 : ¬ (kx_bcn (nI (kx_kb t (kx_bcn (nI (kx_OW F0 F1 s t m K q0 0 t))) (fun x => kx_bcn (nI (kx_OW F0 F1 s t m K q0 0 x))) k)) < kx_bcn (nI x))) => ?_)
      · refine kx_st 8 (pc' := 57) (L' := [some (.ref 43), some (.ref 1), some (.int (kx_bcn (nI (kx_OW F0 F1 s t m K q0 0 t)))), some (.int (nI (kx_kb t (kx_bcn (nI (kx_OW F0 F1 s t m K q0 0 t))) (fun x => kx_bcn (nI (kx_OW F0 F1 s t m K q0 0 x))) k))), some (.int (nI x)), some (.int 0)]) (st' := [.int ((nI x) &&& ((g 1 1) ^^^ (-1)))]) (h' := kv_wd g w) rfl ?_
        refine kx_bc (t := 82) rfl rfl (fun (h57 : ¬ (nI x) &&& ((g 1 1) ^^^ (-1)) = 0) => ?_) (fun (h57 : ¬ (¬ (nI x) &&& ((g 1 1) ^^^ (-1)) = 0)) => ?_)
        · refine kx_st 2 (pc' := 24) (L' := [some (.ref 43), some (.ref 1), some (.int (kx_bcn (nI (kx_OW F0 F1 s t m K q0 0 t)))), some (.int (nI (kx_kb t (kx_bcn (nI (kx_OW F0 F1 s t m K q0 0 t))) (fun x => kx_bcn (nI (kx_OW F0 F1 s t m K q0 0 x))) k))), some (.int ((nI x) + (-1))), some (.int 0)]) (st' := []) (h' := kv_wd g w) rfl ?_
          have hh := ih (k + 1) (some (.int 0)) (by omega)
          rw [kx_dn2 (show k ≤ t by omega) h64, ← ex] at hh
          rw [kx_kb_n ex.symm (fun z => h57 (by rw [hX.2.1.2.1]; exact z.1))] at hh
          exact hh
        · refine kx_st 0 (pc' := 60) (L' := [some (.ref 43), some (.ref 1), some (.int (kx_bcn (nI (kx_OW F0 F1 s t m K q0 0 t)))), some (.int (nI (kx_kb t (kx_bcn (nI (kx_OW F0 F1 s t m K q0 0 t))) (fun x => kx_bcn (nI (kx_OW F0 F1 s t m K q0 0 x))) k))), some (.int (nI x)), some (.int 0)]) (st' := []) (h' := kv_wd g w) rfl ?_
          refine kx_st 1 (pc' := 62) (L' := [some (.ref 43), some (.ref 1), some (.int (kx_bcn (nI (kx_OW F0 F1 s t m K q0 0 t)))), some (.int (nI (kx_kb t (kx_bcn (nI (kx_OW F0 F1 s t m K q0 0 t))) (fun x => kx_bcn (nI (kx_OW F0 F1 s t m K q0 0 x))) k))), some (.int (nI x)), some (.int 0)]) (st' := [.int 0]) (h' := kv_wd g w) rfl ?_
          refine kx_st 1 (pc' := 82) (L' := [some (.ref 43), some (.ref 1), some (.int (kx_bcn (nI (kx_OW F0 F1 s t m K q0 0 t)))), some (.int (nI (kx_kb t (kx_bcn (nI (kx_OW F0 F1 s t m K q0 0 t))) (fun x => kx_bcn (nI (kx_OW F0 F1 s t m K q0 0 x))) k))), some (.int (nI x)), some (.int 0)]) (st' := []) (h' := kv_wd g w) rfl ?_
          refine kx_st 2 (pc' := 24) (L' := [some (.ref 43), some (.ref 1), some (.int (kx_bcn (nI (kx_OW F0 F1 s t m K q0 0 t)))), some (.int (nI (kx_kb t (kx_bcn (nI (kx_OW F0 F1 s t m K q0 0 t))) (fun x => kx_bcn (nI (kx_OW F0 F1 s t m K q0 0 x))) k))), some (.int ((nI x) + (-1))), some (.int 0)]) (st' := []) (h' := kv_wd g w) rfl ?_
          have hh := ih (k + 1) (some (.int 0)) (by omega)
          rw [kx_dn2 (show k ≤ t by omega) h64, ← ex] at hh
          rw [kx_kb_n ex.symm (fun z => Int32.not_lt.mpr z.2.1 h38)] at hh
          exact hh
      · refine kx_st 0 (pc' := 41) (L' := [some (.ref 43), some (.ref 1), some (.int (kx_bcn (nI (kx_OW F0 F1 s t m K q0 0 t)))), some (.int (nI (kx_kb t (kx_bcn (nI (kx_OW F0 F1 s t m K q0 0 t))) (fun x => kx_bcn (nI (kx_OW F0 F1 s t m K q0 0 x))) k))), some (.int (nI x)), x5]) (st' := []) (h' := kv_wd g w) rfl ?_
        refine kx_st 9 (pc' := 57) (L' := [some (.ref 43), some (.ref 1), some (.int (kx_bcn (nI (kx_OW F0 F1 s t m K q0 0 t)))), some (.int (nI (kx_kb t (kx_bcn (nI (kx_OW F0 F1 s t m K q0 0 t))) (fun x => kx_bcn (nI (kx_OW F0 F1 s t m K q0 0 x))) k))), some (.int (nI x)), some (.int 1)]) (st' := [.int ((nI x) &&& ((g 1 1) ^^^ (-1)))]) (h' := kv_wd g w) rfl ?_
        refine kx_bc (t := 82) rfl rfl (fun (h57 : ¬ (nI x) &&& ((g 1 1) ^^^ (-1)) = 0) => ?_) (fun (h57 : ¬ (¬ (nI x) &&& ((g 1 1) ^^^ (-1)) = 0)) => ?_)
        · refine kx_st 2 (pc' := 24) (L' := [some (.ref 43), some (.ref 1), some (.int (kx_bcn (nI (kx_OW F0 F1 s t m K q0 0 t)))), some (.int (nI (kx_kb t (kx_bcn (nI (kx_OW F0 F1 s t m K q0 0 t))) (fun x => kx_bcn (nI (kx_OW F0 F1 s t m K q0 0 x))) k))), some (.int ((nI x) + (-1))), some (.int 1)]) (st' := []) (h' := kv_wd g w) rfl ?_
          have hh := ih (k + 1) (some (.int 1)) (by omega)
          rw [kx_dn2 (show k ≤ t by omega) h64, ← ex] at hh
          rw [kx_kb_n ex.symm (fun z => h57 (by rw [hX.2.1.2.1]; exact z.1))] at hh
          exact hh
        · refine kx_st 0 (pc' := 60) (L' := [some (.ref 43), some (.ref 1), some (.int (kx_bcn (nI (kx_OW F0 F1 s t m K q0 0 t)))), some (.int (nI (kx_kb t (kx_bcn (nI (kx_OW F0 F1 s t m K q0 0 t))) (fun x => kx_bcn (nI (kx_OW F0 F1 s t m K q0 0 x))) k))), some (.int (nI x)), some (.int 1)]) (st' := []) (h' := kv_wd g w) rfl ?_
          refine kx_st 1 (pc' := 62) (L' := [some (.ref 43), some (.ref 1), some (.int (kx_bcn (nI (kx_OW F0 F1 s t m K q0 0 t)))), some (.int (nI (kx_kb t (kx_bcn (nI (kx_OW F0 F1 s t m K q0 0 t))) (fun x => kx_bcn (nI (kx_OW F0 F1 s t m K q0 0 x))) k))), some (.int (nI x)), some (.int 1)]) (st' := [.int 1]) (h' := kv_wd g w) rfl ?_
          refine kx_st 1 (pc' := 65) (L' := [some (.ref 43), some (.ref 1), some (.int (kx_bcn (nI (kx_OW F0 F1 s t m K q0 0 t)))), some (.int (nI (kx_kb t (kx_bcn (nI (kx_OW F0 F1 s t m K q0 0 t))) (fun x => kx_bcn (nI (kx_OW F0 F1 s t m K q0 0 x))) k))), some (.int (nI x)), some (.int 1)]) (st' := []) (h' := kv_wd g w) rfl ?_
          refine kx_st 3 (pc' := 69) (L' := [some (.ref 43), some (.ref 1), some (.int (kx_bcn (nI (kx_OW F0 F1 s t m K q0 0 t)))), some (.int (nI (kx_kb t (kx_bcn (nI (kx_OW F0 F1 s t m K q0 0 t))) (fun x => kx_bcn (nI (kx_OW F0 F1 s t m K q0 0 x))) k))), some (.int (nI x)), some (.int 1)]) (st' := [.int (nI x), .ref 1, .ref 43]) (h' := kv_wd g w) rfl ?_
          refine kx_call (z := 69) (as := [.ref 43, .ref 1, .int (nI x)]) (rest := []) (v := some (.int (nI (kx_OW F0 F1 s t m K q0 0 x)))) (h1 := kv_wd g w) rfl (ev_openWith (d := d) (g := g) (w := w) hX hw.1 hKB (kx_yn F0 s t 0 q0) x (by omega) hwl hw) ?_
          refine kx_st 0 (pc' := 72) (L' := [some (.ref 43), some (.ref 1), some (.int (kx_bcn (nI (kx_OW F0 F1 s t m K q0 0 t)))), some (.int (nI (kx_kb t (kx_bcn (nI (kx_OW F0 F1 s t m K q0 0 t))) (fun x => kx_bcn (nI (kx_OW F0 F1 s t m K q0 0 x))) k))), some (.int (nI x)), some (.int 1)]) (st' := [.int (nI (kx_OW F0 F1 s t m K q0 0 x))]) (h' := kv_wd g w) rfl ?_
          refine kx_call (z := 222) (as := [.int (nI (kx_OW F0 F1 s t m K q0 0 x))]) (rest := []) (v := some (.int (kx_bcn (nI (kx_OW F0 F1 s t m K q0 0 x))))) (h1 := kv_wd g w) rfl (ev_bitCount (d := d + 1) _) ?_
          refine kx_st 0 (pc' := 75) (L' := [some (.ref 43), some (.ref 1), some (.int (kx_bcn (nI (kx_OW F0 F1 s t m K q0 0 t)))), some (.int (nI (kx_kb t (kx_bcn (nI (kx_OW F0 F1 s t m K q0 0 t))) (fun x => kx_bcn (nI (kx_OW F0 F1 s t m K q0 0 x))) k))), some (.int (nI x)), some (.int 1)]) (st' := [.int (kx_bcn (nI (kx_OW F0 F1 s t m K q0 0 x)))]) (h' := kv_wd g w) rfl ?_
          refine kx_st 1 (pc' := 76) (L' := [some (.ref 43), some (.ref 1), some (.int (kx_bcn (nI (kx_OW F0 F1 s t m K q0 0 t)))), some (.int (nI (kx_kb t (kx_bcn (nI (kx_OW F0 F1 s t m K q0 0 t))) (fun x => kx_bcn (nI (kx_OW F0 F1 s t m K q0 0 x))) k))), some (.int (nI x)), some (.int 1)]) (st' := [.int (kx_bcn (nI (kx_OW F0 F1 s t m K q0 0 t))), .int (kx_bcn (nI (kx_OW F0 F1 s t m K q0 0 x)))]) (h' := kv_wd g w) rfl ?_
          refine kx_bi (t := 82) rfl rfl (fun (h76 : ¬ kx_bcn (nI (kx_OW F0 F1 s t m K q0 0 x)) = (kx_bcn (nI (kx_OW F0 F1 s t m K q0 0 t)))) => ?_) (fun (h76 : ¬ (¬ kx_bcn (nI (kx_OW F0 F1 s t m K q0 0 x)) = (kx_bcn (nI (kx_OW F0 F1 s t m K q0 0 t))))) => ?_)
          · refine kx_st 2 (pc' := 24) (L' := [some (.ref 43), some (.ref 1), some (.int (kx_bcn (nI (kx_OW F0 F1 s t m K q0 0 t)))), some (.int (nI (kx_kb t (kx_bcn (nI (kx_OW F0 F1 s t m K q0 0 t))) (fun x => kx_bcn (nI (kx_OW F0 F1 s t m K q0 0 x))) k))), some (.int ((nI x) + (-1))), some (.int 1)]) (st' := []) (h' := kv_wd g w) rfl ?_
            have hh := ih (k + 1) (some (.int 1)) (by omega)
            rw [kx_dn2 (show k ≤ t by omega) h64, ← ex] at hh
            rw [kx_kb_n ex.symm (fun z => h76 z.2.2)] at hh
            exact hh
          · refine kx_st 0 (pc' := 79) (L' := [some (.ref 43), some (.ref 1), some (.int (kx_bcn (nI (kx_OW F0 F1 s t m K q0 0 t)))), some (.int (nI (kx_kb t (kx_bcn (nI (kx_OW F0 F1 s t m K q0 0 t))) (fun x => kx_bcn (nI (kx_OW F0 F1 s t m K q0 0 x))) k))), some (.int (nI x)), some (.int 1)]) (st' := []) (h' := kv_wd g w) rfl ?_
            refine kx_st 4 (pc' := 24) (L' := [some (.ref 43), some (.ref 1), some (.int (kx_bcn (nI (kx_OW F0 F1 s t m K q0 0 t)))), some (.int (nI x)), some (.int ((nI x) + (-1))), some (.int 1)]) (st' := []) (h' := kv_wd g w) rfl ?_
            have hh := ih (k + 1) (some (.int 1)) (by omega)
            rw [kx_dn2 (show k ≤ t by omega) h64, ← ex] at hh
            rw [kx_kb_y ex.symm (show (nI x &&& (nI t ^^^ (-1))) = 0 from by rw [← hX.2.1.2.1]; exact Classical.not_not.mp h57) (Int32.not_lt.mp h38) (Classical.not_not.mp h76)] at hh
            exact hh
set_option maxRecDepth 100000 in
theorem ev_fewestKept {E : kv_V} {d : Nat} {g : kv_S} {w : kv_W} {F0 F1 : kx_FF} {s t m : Nat} {K : Nat → Nat → Int32} (hX : kx_X F0 F1 s t m K g) (hw : kv_qok w) (hKB : ∀ k, k < m → kx_K s k (K k) (K k)) (q0 : kx_Q) (hwl : ∀ j, j < m → w.1 j = kx_lf (fun a b => decide (a < s) && decide (kx_lsn F1 (kx_yn F0 s t 0 q0) (K j) a b ∨ kx_lsn F1 (kx_yn F0 s t 0 q0) (K j) b a)) 36) : kv_ev E (d + 3) 72 [.ref 43, .ref 1] (kv_wd g w) (some (.int (nI (kx_kb t (kx_bcn (nI (kx_OW F0 F1 s t m K q0 0 t))) (fun x => kx_bcn (nI (kx_OW F0 F1 s t m K q0 0 x))) (t + 1))))) (kv_wd g w) := by
  have s6 := hX.1.2.1
  have h64 : t < 64 := Nat.lt_of_lt_of_le hX.1.2.2.1 (Nat.pow_le_pow_right (by omega) s6)
  refine kx_ev (d := d + 2) (by decide) (Nat.le_of_ble_eq_true rfl) ?_
  refine kx_st 0 (pc' := 0) (L' := [some (.ref 43), some (.ref 1), none, none, none, none]) (st' := []) (h' := kv_wd g w) rfl ?_
  refine kx_st 4 (pc' := 6) (L' := [some (.ref 43), some (.ref 1), none, none, none, none]) (st' := [.int (g 1 1), .ref 1, .ref 43]) (h' := kv_wd g w) rfl ?_
  refine kx_call (z := 69) (as := [.ref 43, .ref 1, .int (g 1 1)]) (rest := []) (v := some (.int (nI (kx_OW F0 F1 s t m K q0 0 t)))) (h1 := kv_wd g w) rfl (by rw [hX.2.1.2.1]; exact ev_openWith (d := d) (g := g) (w := w) hX hw.1 hKB (kx_yn F0 s t 0 q0) t h64 hwl hw) ?_
  refine kx_st 0 (pc' := 9) (L' := [some (.ref 43), some (.ref 1), none, none, none, none]) (st' := [.int (nI (kx_OW F0 F1 s t m K q0 0 t))]) (h' := kv_wd g w) rfl ?_
  refine kx_call (z := 222) (as := [.int (nI (kx_OW F0 F1 s t m K q0 0 t))]) (rest := []) (v := some (.int (kx_bcn (nI (kx_OW F0 F1 s t m K q0 0 t))))) (h1 := kv_wd g w) rfl (ev_bitCount (d := d + 1) _) ?_
  refine kx_st 0 (pc' := 12) (L' := [some (.ref 43), some (.ref 1), none, none, none, none]) (st' := [.int (kx_bcn (nI (kx_OW F0 F1 s t m K q0 0 t)))]) (h' := kv_wd g w) rfl ?_
  refine kx_st 7 (pc' := 24) (L' := [some (.ref 43), some (.ref 1), some (.int (kx_bcn (nI (kx_OW F0 F1 s t m K q0 0 t)))), some (.int (g 1 1)), some (.int (g 1 1)), none]) (st' := []) (h' := kv_wd g w) rfl ?_
  rw [hX.2.1.2.1]
  exact lp_kept (d := d) hX hw hKB q0 hwl ⟨rfl, rfl⟩ (t + 1) 0 none (by omega)
set_option maxRecDepth 100000 in
theorem lp_mkeep {E : kv_V} {d : Nat} {g : kv_S} {w : kv_W} {F0 F1 : kx_FF} {s t m : Nat} {K : Nat → Nat → Int32} (hM : kx_M F0 F1 s t m K (g 66)) (hKB : ∀ k, k < m → kx_K s k (K k) (K k)) (q0 : kx_Q) (hq : kx_hmq (g 66) q0) {P : Option Value → kv_H → Prop} (hP : ∀ (g1 : kv_S), ((∀ b, b ≠ 65 → b ≠ 66 → b ≠ 68 → g1 b = g b) ∧ (∀ z, (z < 7 ∨ 14 < z) → g1 65 z = g 65 z) ∧ ∀ j, j < 268 → g1 66 j = g 66 j) → P (some (.int (nI (kx_kb t (kx_bcn (nI (kx_OW F0 F1 s t m K q0 0 t))) (fun x => kx_bcn (nI (kx_OW F0 F1 s t m K q0 0 x))) (t + 1))))) (kv_wd g1 w)) : ∀ (nz k : Nat) (g1 : kv_S), k + nz = t + 1 → ((∀ b, b ≠ 65 → b ≠ 66 → b ≠ 68 → g1 b = g b) ∧ (∀ z, (z < 7 ∨ 14 < z) → g1 65 z = g 65 z) ∧ ∀ j, j < 268 → g1 66 j = g 66 j) → kx_V E (d + 105) 193 20 [some (.ref 65), some (.int (nI t)), some (.int (kx_bcn (nI (kx_OW F0 F1 s t m K q0 0 t)))), some (.int (nI (kx_kb t (kx_bcn (nI (kx_OW F0 F1 s t m K q0 0 t))) (fun x => kx_bcn (nI (kx_OW F0 F1 s t m K q0 0 x))) k))), some (.int (if k = t + 1 then -1 else nI (t - k)))] [] (kv_wd g1 w) P := by
  have s6 := hM.1.2.1
  have m8 := hM.1.2.2.2
  have h64 : t < 64 := Nat.lt_of_lt_of_le hM.1.2.2.1 (Nat.pow_le_pow_right (by omega) s6)
  intro nz
  induction nz with
  | zero =>
    intro k g1 hk h1
    have hkN : k = t + 1 := by omega
    subst hkN
    rw [if_pos rfl]
    refine kx_st 1 (pc' := 22) (L' := [some (.ref 65), some (.int (nI t)), some (.int (kx_bcn (nI (kx_OW F0 F1 s t m K q0 0 t)))), some (.int (nI (kx_kb t (kx_bcn (nI (kx_OW F0 F1 s t m K q0 0 t))) (fun x => kx_bcn (nI (kx_OW F0 F1 s t m K q0 0 x))) (t + 1)))), some (.int (-1))]) (st' := [.int (-1)]) (h' := kv_wd g1 w) rfl ?_
    refine kx_st 1 (pc' := 73) (L' := [some (.ref 65), some (.int (nI t)), some (.int (kx_bcn (nI (kx_OW F0 F1 s t m K q0 0 t)))), some (.int (nI (kx_kb t (kx_bcn (nI (kx_OW F0 F1 s t m K q0 0 t))) (fun x => kx_bcn (nI (kx_OW F0 F1 s t m K q0 0 x))) (t + 1)))), some (.int (-1))]) (st' := []) (h' := kv_wd g1 w) rfl ?_
    refine kx_st 1 (pc' := 74) (L' := [some (.ref 65), some (.int (nI t)), some (.int (kx_bcn (nI (kx_OW F0 F1 s t m K q0 0 t)))), some (.int (nI (kx_kb t (kx_bcn (nI (kx_OW F0 F1 s t m K q0 0 t))) (fun x => kx_bcn (nI (kx_OW F0 F1 s t m K q0 0 x))) (t + 1)))), some (.int (-1))]) (st' := [.int (nI (kx_kb t (kx_bcn (nI (kx_OW F0 F1 s t m K q0 0 t))) (fun x => kx_bcn (nI (kx_OW F0 F1 s t m K q0 0 x))) (t + 1)))]) (h' := kv_wd g1 w) rfl ?_
    refine kx_ret (v := some (.int (nI (kx_kb t (kx_bcn (nI (kx_OW F0 F1 s t m K q0 0 t))) (fun x => kx_bcn (nI (kx_OW F0 F1 s t m K q0 0 x))) (t + 1))))) rfl ?_
    exact hP g1 h1
  | succ nz ih =>
    intro k g1 hk h1
    rw [if_neg (by omega)]
    obtain ⟨x, ex⟩ : ∃ x, x = t - k := ⟨_, rfl⟩
    rw [← ex]
    have x64 : x < 64 := by omega
    have hM1 : kx_M F0 F1 s t m K (g1 66) := kx_M_cg (fun j _ _ hj => h1.2.2 j hj) hM
    have hq1 : kx_hmq (g1 66) q0 := ⟨fun p hp => ⟨(h1.2.2 _ (by omega)).trans (hq.1 p hp).1, (h1.2.2 _ (by omega)).trans (hq.1 p hp).2⟩, (h1.2.2 0 (by omega)).trans hq.2⟩
    refine kx_st 1 (pc' := 22) (L' := [some (.ref 65), some (.int (nI t)), some (.int (kx_bcn (nI (kx_OW F0 F1 s t m K q0 0 t)))), some (.int (nI (kx_kb t (kx_bcn (nI (kx_OW F0 F1 s t m K q0 0 t))) (fun x => kx_bcn (nI (kx_OW F0 F1 s t m K q0 0 x))) k))), some (.int (nI x))]) (st' := [.int (nI x)]) (h' := kv_wd g1 w) rfl ?_
    refine kx_bc (t := 73) rfl rfl (fun (h22 : nI x < 0) => ?_) (fun (h22 : ¬ (nI x < 0)) => ?_)
    · exact absurd h22 (nI_pos (by omega))
    · refine kx_st 0 (pc' := 25) (L' := [some (.ref 65), some (.int (nI t)), some (.int (kx_bcn (nI (kx_OW F0 F1 s t m K q0 0 t)))), some (.int (nI (kx_kb t (kx_bcn (nI (kx_OW F0 F1 s t m K q0 0 t))) (fun x => kx_bcn (nI (kx_OW F0 F1 s t m K q0 0 x))) k))), some (.int (nI x))]) (st' := []) (h' := kv_wd g1 w) rfl ?_
      refine kx_st 5 (pc' := 31) (L' := [some (.ref 65), some (.int (nI t)), some (.int (kx_bcn (nI (kx_OW F0 F1 s t m K q0 0 t)))), some (.int (nI (kx_kb t (kx_bcn (nI (kx_OW F0 F1 s t m K q0 0 t))) (fun x => kx_bcn (nI (kx_OW F0 F1 s t m K q0 0 x))) k))), some (.int (nI x))]) (st' := [.int ((nI x) &&& ((nI t) ^^^ (-1)))]) (h' := kv_wd g1 w) rfl ?_
      refine kx_bc (t := 67) rfl rfl (fun (h31 : ¬ (nI x) &&& ((nI t) ^^^ (-1)) = 0) => ?_) (fun (h31 : ¬ (¬ (nI x) &&& ((nI t) ^^^ (-1)) = 0)) => ?_)
      · refine kx_st 2 (pc' := 20) (L' := [some (.ref 65), some (.int (nI t)), some (.int (kx_bcn (nI (kx_OW F0 F1 s t m K q0 0 t)))), some (.int (nI (kx_kb t (kx_bcn (nI (kx_OW F0 F1 s t m K q0 0 t))) (fun x => kx_bcn (nI (kx_OW F0 F1 s t m K q0 0 x))) k))), some (.int ((nI x) + (-1)))]) (st' := []) (h' := kv_wd g1 w) rfl ?_
        have hh := ih (k + 1) g1 (by omega) h1
        rw [kx_dn2 (show k ≤ t by omega) h64, ← ex] at hh
        rw [kx_kb_n ex.symm (fun z => h31 z.1)] at hh
        exact hh
      · refine kx_st 0 (pc' := 34) (L' := [some (.ref 65), some (.int (nI t)), some (.int (kx_bcn (nI (kx_OW F0 F1 s t m K q0 0 t)))), some (.int (nI (kx_kb t (kx_bcn (nI (kx_OW F0 F1 s t m K q0 0 t))) (fun x => kx_bcn (nI (kx_OW F0 F1 s t m K q0 0 x))) k))), some (.int (nI x))]) (st' := []) (h' := kv_wd g1 w) rfl ?_
        refine kx_st 1 (pc' := 36) (L' := [some (.ref 65), some (.int (nI t)), some (.int (kx_bcn (nI (kx_OW F0 F1 s t m K q0 0 t)))), some (.int (nI (kx_kb t (kx_bcn (nI (kx_OW F0 F1 s t m K q0 0 t))) (fun x => kx_bcn (nI (kx_OW F0 F1 s t m K q0 0 x))) k))), some (.int (nI x))]) (st' := [.int (nI x)]) (h' := kv_wd g1 w) rfl ?_
        refine kx_call (z := 134) (as := [.int (nI x)]) (rest := []) (v := some (.int (kx_bcn (nI x)))) (h1 := kv_wd g1 w) rfl (ev_bits (d := d + 104) x (by omega)) ?_
        refine kx_st 0 (pc' := 39) (L' := [some (.ref 65), some (.int (nI t)), some (.int (kx_bcn (nI (kx_OW F0 F1 s t m K q0 0 t)))), some (.int (nI (kx_kb t (kx_bcn (nI (kx_OW F0 F1 s t m K q0 0 t))) (fun x => kx_bcn (nI (kx_OW F0 F1 s t m K q0 0 x))) k))), some (.int (nI x))]) (st' := [.int (kx_bcn (nI x))]) (h' := kv_wd g1 w) rfl ?_
        refine kx_st 1 (pc' := 40) (L' := [some (.ref 65), some (.int (nI t)), some (.int (kx_bcn (nI (kx_OW F0 F1 s t m K q0 0 t)))), some (.int (nI (kx_kb t (kx_bcn (nI (kx_OW F0 F1 s t m K q0 0 t))) (fun x => kx_bcn (nI (kx_OW F0 F1 s t m K q0 0 x))) k))), some (.int (nI x))]) (st' := [.int (nI (kx_kb t (kx_bcn (nI (kx_OW F0 F1 s t m K q0 0 t))) (fun x => kx_bcn (nI (kx_OW F0 F1 s t m K q0 0 x))) k)), .int (kx_bcn (nI x))]) (h' := kv_wd g1 w) rfl ?_
        refine kx_call (z := 134) (as := [.int (nI (kx_kb t (kx_bcn (nI (kx_OW F0 F1 s t m K q0 0 t))) (fun x => kx_bcn (nI (kx_OW F0 F1 s t m K q0 0 x))) k))]) (rest := [.int (kx_bcn (nI x))]) (v := some (.int (kx_bcn (nI (kx_kb t (kx_bcn (nI (kx_OW F0 F1 s t m K q0 0 t))) (fun x => kx_bcn (nI (kx_OW F0 F1 s t m K q0 0 x))) k))))) (h1 := kv_wd g1 w) rfl (ev_bits (d := d + 104) (kx_kb t (kx_bcn (nI (kx_OW F0 F1 s t m K q0 0 t))) (fun x => kx_bcn (nI (kx_OW F0 F1 s t m K q0 0 x))) k) (Nat.lt_of_lt_of_le (kx_kb_lt h64 k) (by decide))) ?_
        refine kx_st 0 (pc' := 43) (L' := [some (.ref 65), some (.int (nI t)), some (.int (kx_bcn (nI (kx_OW F0 F1 s t m K q0 0 t)))), some (.int (nI (kx_kb t (kx_bcn (nI (kx_OW F0 F1 s t m K q0 0 t))) (fun x => kx_bcn (nI (kx_OW F0 F1 s t m K q0 0 x))) k))), some (.int (nI x))]) (st' := [.int (kx_bcn (nI (kx_kb t (kx_bcn (nI (kx_OW F0 F1 s t m K q0 0 t))) (fun x => kx_bcn (nI (kx_OW F0 F1 s t m K q0 0 x))) k))), .int (kx_bcn (nI x))]) (h' := kv_wd g1 w) rfl ?_
        refine kx_bi (t := 67) rfl rfl (fun (h43 : kx_bcn (nI (kx_kb t (kx_bcn (nI (kx_OW F0 F1 s t m K q0 0 t))) (fun x => kx_bcn (nI (kx_OW F0 F1 s t m K q0 0 x))) k)) < kx_bcn (nI x)) => ?_) (fun (h43 : ¬ (kx_bcn (nI (kx_kb t (kx_bcn (nI (kx_OW F0 F1 s t m K q0 0 t))) (fun x => kx_bcn (nI (kx_OW F0 F1 s t m K q0 0 x))) k)) < kx_bcn (nI x))) => ?_)
        · refine kx_st 2 (pc' := 20) (L' := [some (.ref 65), some (.int (nI t)), some (.int (kx_bcn (nI (kx_OW F0 F1 s t m K q0 0 t)))), some (.int (nI (kx_kb t (kx_bcn (nI (kx_OW F0 F1 s t m K q0 0 t))) (fun x => kx_bcn (nI (kx_OW F0 F1 s t m K q0 0 x))) k))), some (.int ((nI x) + (-1)))]) (st' := []) (h' := kv_wd g1 w) rfl ?_
          have hh := ih (k + 1) g1 (by omega) h1
          rw [kx_dn2 (show k ≤ t by omega) h64, ← ex] at hh
          rw [kx_kb_n ex.symm (fun z => Int32.not_lt.mpr z.2.1 h43)] at hh
          exact hh
        · refine kx_st 0 (pc' := 46) (L' := [some (.ref 65), some (.int (nI t)), some (.int (kx_bcn (nI (kx_OW F0 F1 s t m K q0 0 t)))), some (.int (nI (kx_kb t (kx_bcn (nI (kx_OW F0 F1 s t m K q0 0 t))) (fun x => kx_bcn (nI (kx_OW F0 F1 s t m K q0 0 x))) k))), some (.int (nI x))]) (st' := []) (h' := kv_wd g1 w) rfl ?_
          refine kx_st 7 (pc' := 54) (L' := [some (.ref 65), some (.int (nI t)), some (.int (kx_bcn (nI (kx_OW F0 F1 s t m K q0 0 t)))), some (.int (nI (kx_kb t (kx_bcn (nI (kx_OW F0 F1 s t m K q0 0 t))) (fun x => kx_bcn (nI (kx_OW F0 F1 s t m K q0 0 x))) k))), some (.int (nI x))]) (st' := [.int 0, .int ((nI t) &&& ((nI x) ^^^ (-1))), .ref 65]) (h' := kv_wd g1 w) rfl ?_
          have hsub := kx_sub2 x x64 t h64 (Classical.not_not.mp h31)
          obtain ⟨go, eo, ro, so, to⟩ := ev_openBut (E := E) (d := d) (g := g1) (w := w) hKB hM1 q0 hq1 (t &&& (63 ^^^ x)) 0 (Nat.lt_of_le_of_lt Nat.and_le_left h64) (by omega) x (by have := hM.1.2.2.1; omega) (fun p hp => hsub p (by omega))
          have h2 : (∀ b, b ≠ 65 → b ≠ 66 → b ≠ 68 → go b = g b) ∧ (∀ z, (z < 7 ∨ 14 < z) → go 65 z = g 65 z) ∧ ∀ j, j < 268 → go 66 j = g 66 j := ⟨fun b b1 b2 b3 => (ro b b1 b2 b3).trans (h1.1 b b1 b2 b3), fun z hz => (so z hz).trans (h1.2.1 z hz), fun j hj => (to j hj).trans (h1.2.2 j hj)⟩
          refine kx_call (z := 188) (as := [.ref 65, .int ((nI t) &&& ((nI x) ^^^ (-1))), .int 0]) (rest := []) (v := some (.int (nI (kx_OW F0 F1 s t m K q0 0 x)))) (h1 := kv_wd go w) rfl (by rw [kx_sub1 x x64 t h64]; exact eo) ?_
          refine kx_st 0 (pc' := 57) (L' := [some (.ref 65), some (.int (nI t)), some (.int (kx_bcn (nI (kx_OW F0 F1 s t m K q0 0 t)))), some (.int (nI (kx_kb t (kx_bcn (nI (kx_OW F0 F1 s t m K q0 0 t))) (fun x => kx_bcn (nI (kx_OW F0 F1 s t m K q0 0 x))) k))), some (.int (nI x))]) (st' := [.int (nI (kx_OW F0 F1 s t m K q0 0 x))]) (h' := kv_wd go w) rfl ?_
          refine kx_call (z := 134) (as := [.int (nI (kx_OW F0 F1 s t m K q0 0 x))]) (rest := []) (v := some (.int (kx_bcn (nI (kx_OW F0 F1 s t m K q0 0 x))))) (h1 := kv_wd go w) rfl (ev_bits (d := d + 104) (kx_OW F0 F1 s t m K q0 0 x) (kx_OW_lt m8)) ?_
          refine kx_st 0 (pc' := 60) (L' := [some (.ref 65), some (.int (nI t)), some (.int (kx_bcn (nI (kx_OW F0 F1 s t m K q0 0 t)))), some (.int (nI (kx_kb t (kx_bcn (nI (kx_OW F0 F1 s t m K q0 0 t))) (fun x => kx_bcn (nI (kx_OW F0 F1 s t m K q0 0 x))) k))), some (.int (nI x))]) (st' := [.int (kx_bcn (nI (kx_OW F0 F1 s t m K q0 0 x)))]) (h' := kv_wd go w) rfl ?_
          refine kx_st 1 (pc' := 61) (L' := [some (.ref 65), some (.int (nI t)), some (.int (kx_bcn (nI (kx_OW F0 F1 s t m K q0 0 t)))), some (.int (nI (kx_kb t (kx_bcn (nI (kx_OW F0 F1 s t m K q0 0 t))) (fun x => kx_bcn (nI (kx_OW F0 F1 s t m K q0 0 x))) k))), some (.int (nI x))]) (st' := [.int (kx_bcn (nI (kx_OW F0 F1 s t m K q0 0 t))), .int (kx_bcn (nI (kx_OW F0 F1 s t m K q0 0 x)))]) (h' := kv_wd go w) rfl ?_
          refine kx_bi (t := 67) rfl rfl (fun (h61 : ¬ kx_bcn (nI (kx_OW F0 F1 s t m K q0 0 x)) = (kx_bcn (nI (kx_OW F0 F1 s t m K q0 0 t)))) => ?_) (fun (h61 : ¬ (¬ kx_bcn (nI (kx_OW F0 F1 s t m K q0 0 x)) = (kx_bcn (nI (kx_OW F0 F1 s t m K q0 0 t))))) => ?_)
          · refine kx_st 2 (pc' := 20) (L' := [some (.ref 65), some (.int (nI t)), some (.int (kx_bcn (nI (kx_OW F0 F1 s t m K q0 0 t)))), some (.int (nI (kx_kb t (kx_bcn (nI (kx_OW F0 F1 s t m K q0 0 t))) (fun x => kx_bcn (nI (kx_OW F0 F1 s t m K q0 0 x))) k))), some (.int ((nI x) + (-1)))]) (st' := []) (h' := kv_wd go w) rfl ?_
            have hh := ih (k + 1) go (by omega) h2
            rw [kx_dn2 (show k ≤ t by omega) h64, ← ex] at hh
            rw [kx_kb_n ex.symm (fun z => h61 z.2.2)] at hh
            exact hh
          · refine kx_st 0 (pc' := 64) (L' := [some (.ref 65), some (.int (nI t)), some (.int (kx_bcn (nI (kx_OW F0 F1 s t m K q0 0 t)))), some (.int (nI (kx_kb t (kx_bcn (nI (kx_OW F0 F1 s t m K q0 0 t))) (fun x => kx_bcn (nI (kx_OW F0 F1 s t m K q0 0 x))) k))), some (.int (nI x))]) (st' := []) (h' := kv_wd go w) rfl ?_
            refine kx_st 4 (pc' := 20) (L' := [some (.ref 65), some (.int (nI t)), some (.int (kx_bcn (nI (kx_OW F0 F1 s t m K q0 0 t)))), some (.int (nI x)), some (.int ((nI x) + (-1)))]) (st' := []) (h' := kv_wd go w) rfl ?_
            have hh := ih (k + 1) go (by omega) h2
            rw [kx_dn2 (show k ≤ t by omega) h64, ← ex] at hh
            rw [kx_kb_y ex.symm (Classical.not_not.mp h31) (Int32.not_lt.mp h43) (Classical.not_not.mp h61)] at hh
            exact hh
set_option maxRecDepth 100000 in
theorem pr_keep {E : kv_V} : kx_ok2 E (kx_Rl kx_L) 102 193 [] := by
  intro g w i hR hi
  obtain ⟨F0, F1, s, t, m, K, hF0, hF1, hX, hM, hKB, hKe⟩ := kx_Rl_XMK hR
  obtain ⟨q0, hq0, hm0, hb0, hy0⟩ := kx_Rl_q hR
  have q := hR.1
  have b1 := hX.2.1.1
  have b2 := hM.2.1.1
  have a1 := hX.1.1
  have a2 := hX.1.2.1
  have a4 := hX.1.2.2.2
  have d1 := hX.2.1.2.2
  have d2 := hM.2.1.2
  refine kx_two (by decide) (Nat.le_of_ble_eq_true rfl) (by decide) (Nat.le_of_ble_eq_true rfl) ?_
  refine kx_st 0 (pc' := 0) (L' := [some (.ref 0)]) (st' := []) (h' := kv_wd g w) rfl ?_
  refine kx_st 5 (pc' := 9) (L' := [some (.ref 0)]) (st' := [.int 0, .ref 1, .ref 43]) (h' := kv_wd g w) rfl ?_
  obtain ⟨gb, eg, qb, rb⟩ := ev_goBehind (E := E) (d := 891) (w := w) hX q0 hq0 0 (by omega)
  have Xb : kx_X F0 F1 s t m K gb := kx_X_cg (fun b hb => rb b (by omega) (by omega) (by omega) (by omega)) hX
  refine kx_call (z := 60) (as := [.ref 43, .ref 1, .int 0]) (rest := []) (v := none) (h1 := kv_wd gb w) rfl eg ?_
  refine kx_st 0 (pc' := 12) (L' := [some (.ref 0)]) (st' := []) (h' := kv_wd gb w) rfl ?_
  refine kx_st 4 (pc' := 20) (L' := [some (.ref 0)]) (st' := [.ref 1, .ref 43]) (h' := kv_wd gb w) rfl ?_
  obtain ⟨ff, wl, ef, hwl⟩ := ev_findWays (E := E) (d := 890) (g := gb) (wl0 := w.1) (w2 := w.2) Xb q.1 (kx_yn F0 s t 0 q0) qb (kx_qb_n hF0 hb0 0) hKB
  have Xf : kx_X F0 F1 s t m K (kv_uf gb 11 ff) := kx_X_cg (fun b hb => kv_uf_ne (by omega)) Xb
  have rf : ∀ b, b ≠ 8 → b ≠ 11 → (b < 44 ∨ 52 < b) → (kv_uf gb 11 ff) b = g b := fun b h8 h11 h4 => (kv_uf_ne h11).trans (rb b h8 (by omega) (by omega) (by omega))
  have Mf : kx_M F0 F1 s t m K ((kv_uf gb 11 ff) 66) := by rw [rf 66 (by omega) (by omega) (by omega)]; exact hM
  have mf : kx_hmq ((kv_uf gb 11 ff) 66) q0 := by rw [rf 66 (by omega) (by omega) (by omega)]; exact hm0
  have h64 : t < 64 := Nat.lt_of_lt_of_le hX.1.2.2.1 (Nat.pow_le_pow_right (by omega) a2)
  refine kx_call (z := 66) (as := [.ref 43, .ref 1]) (rest := []) (v := none) (h1 := kv_wd (kv_uf gb 11 ff) (wl, w.2)) rfl ef ?_
  refine kx_st 0 (pc' := 23) (L' := [some (.ref 0)]) (st' := []) (h' := kv_wd (kv_uf gb 11 ff) (wl, w.2)) rfl ?_
  refine kx_st 4 (pc' := 31) (L' := [some (.ref 0)]) (st' := [.ref 1, .ref 43]) (h' := kv_wd (kv_uf gb 11 ff) (wl, w.2)) rfl ?_
  refine kx_call (z := 72) (as := [.ref 43, .ref 1]) (rest := []) (v := some (.int (nI (kx_kb t (kx_bcn (nI (kx_OW F0 F1 s t m K q0 0 t))) (fun x => kx_bcn (nI (kx_OW F0 F1 s t m K q0 0 x))) (t + 1))))) (h1 := kv_wd (kv_uf gb 11 ff) (wl, w.2)) rfl (ev_fewestKept (d := 896) (g := kv_uf gb 11 ff) (w := (wl, w.2)) Xf q hKB q0 hwl) ?_
  refine kx_st 0 (pc' := 34) (L' := [some (.ref 0)]) (st' := [.int (nI (kx_kb t (kx_bcn (nI (kx_OW F0 F1 s t m K q0 0 t))) (fun x => kx_bcn (nI (kx_OW F0 F1 s t m K q0 0 x))) (t + 1)))]) (h' := kv_wd (kv_uf gb 11 ff) (wl, w.2)) rfl ?_
  refine kx_ret (v := some (.int (nI (kx_kb t (kx_bcn (nI (kx_OW F0 F1 s t m K q0 0 t))) (fun x => kx_bcn (nI (kx_OW F0 F1 s t m K q0 0 x))) (t + 1))))) rfl ?_
  refine ⟨_, _, _, rfl, rfl, ?_⟩
  refine kx_st 0 (pc' := 0) (L' := [some (.ref 65), none, none, none, none]) (st' := []) (h' := kv_wd (kv_uf gb 11 ff) (wl, w.2)) rfl ?_
  refine kx_st 1 (pc' := 1) (L' := [some (.ref 65), none, none, none, none]) (st' := [.ref 65]) (h' := kv_wd (kv_uf gb 11 ff) (wl, w.2)) rfl ?_
  refine kx_call (z := 191) (as := [.ref 65]) (rest := []) (v := some (.int (nI t))) (h1 := kv_wd (kv_uf gb 11 ff) (wl, w.2)) rfl (ev_thereSet (d := 898) (g := kv_uf gb 11 ff) s t a2 Mf.2.1.1 hX.1.2.2.1 Mf.2.2.1) ?_
  refine kx_st 0 (pc' := 4) (L' := [some (.ref 65), none, none, none, none]) (st' := [.int (nI t)]) (h' := kv_wd (kv_uf gb 11 ff) (wl, w.2)) rfl ?_
  refine kx_st 4 (pc' := 8) (L' := [some (.ref 65), some (.int (nI t)), none, none, none]) (st' := [.int 0, .int 0, .ref 65]) (h' := kv_wd (kv_uf gb 11 ff) (wl, w.2)) rfl ?_
  obtain ⟨go, eo, ro, so, to⟩ := ev_openBut (E := E) (d := 794) (g := kv_uf gb 11 ff) (w := (wl, w.2)) hKB Mf q0 mf 0 0 (by omega) (by omega) t hX.1.2.2.1 (fun p hp => by rw [Nat.zero_testBit]; simp)
  have Mo : kx_M F0 F1 s t m K (go 66) := kx_M_cg (fun j _ _ hj => to j hj) Mf
  have mo : kx_hmq (go 66) q0 := ⟨fun p hp => ⟨(to _ (by omega)).trans (mf.1 p hp).1, (to _ (by omega)).trans (mf.1 p hp).2⟩, (to 0 (by omega)).trans mf.2⟩
  refine kx_call (z := 188) (as := [.ref 65, .int 0, .int 0]) (rest := []) (v := some (.int (nI (kx_OW F0 F1 s t m K q0 0 t)))) (h1 := kv_wd go (wl, w.2)) rfl eo ?_
  refine kx_st 0 (pc' := 11) (L' := [some (.ref 65), some (.int (nI t)), none, none, none]) (st' := [.int (nI (kx_OW F0 F1 s t m K q0 0 t))]) (h' := kv_wd go (wl, w.2)) rfl ?_
  refine kx_call (z := 134) (as := [.int (nI (kx_OW F0 F1 s t m K q0 0 t))]) (rest := []) (v := some (.int (kx_bcn (nI (kx_OW F0 F1 s t m K q0 0 t))))) (h1 := kv_wd go (wl, w.2)) rfl (ev_bits (d := 898) _ (kx_OW_lt a4)) ?_
  refine kx_st 0 (pc' := 14) (L' := [some (.ref 65), some (.int (nI t)), none, none, none]) (st' := [.int (kx_bcn (nI (kx_OW F0 F1 s t m K q0 0 t)))]) (h' := kv_wd go (wl, w.2)) rfl ?_
  refine kx_st 5 (pc' := 20) (L' := [some (.ref 65), some (.int (nI t)), some (.int (kx_bcn (nI (kx_OW F0 F1 s t m K q0 0 t)))), some (.int (nI t)), some (.int (nI t))]) (st' := []) (h' := kv_wd go (wl, w.2)) rfl ?_
  refine lp_mkeep (d := 794) (g := go) (w := (wl, w.2)) Mo hKB q0 mo (fun g20 r20 => ?_) (t + 1) 0 go (by omega) ⟨fun _ _ _ _ => rfl, fun _ _ => rfl, fun _ _ => rfl⟩
  exact ⟨rfl, _, _, rfl, kx_Rl_skip _ _ _ _ (kx_Rl_ro hR rfl (fun b h8 h11 h4 h65 h66 h68 h69 => (r20.1 b h65 h66 h68).trans ((ro b h65 h66 h68).trans (rf b h8 h11 h4))) (fun z hz => (r20.2.1 z hz).trans ((so z hz).trans (congrFun (rf 65 (by omega) (by omega) (by omega)) z))) (fun j hj => (r20.2.2 j hj).trans ((to j hj).trans (congrFun (rf 66 (by omega) (by omega) (by omega)) j))))⟩
