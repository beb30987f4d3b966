/-! THE SMALL MACHINE'S CLAIM out of the pairs of calls -/
theorem kx_sz_wd (g g' : kv_S) (w w' : kv_W) : kv_sz (kv_wd g w) = kv_sz (kv_wd g' w') := rfl
set_option maxRecDepth 100000 in
set_option maxHeartbeats 1000000 in
theorem kx_law {Ln : Nat} {xs : Nat → Int32} {Rl : kv_S → kv_W → Nat → Prop} (hL : Ln ≤ 3072) (ha : kx_all (kv_E0 Ln xs) Rl) (hskip : ∀ g w k, Rl g w k → Rl g w (k + 1)) (h0 : ∀ g w, kx_ini g w = true → Rl g w 0) : kv_pure Ln xs := by
  obtain ⟨h1, g, w, hev, hl, hini, hsz⟩ := kx_begin
  have key : kx_V (kv_E0 Ln xs) 900 223 0 (kv_in [.ref 1000] 4) [] [] (fun r hf => r = some (.int 1) ∧ kv_sz hf ≤ 7302250) := by
    refine kx_st 2 (pc' := 4) (L' := [some (.ref 1000), none, none, none]) (st' := [.ref 0, .ref 0]) (h' := [.inr (8, kv_dv 8)]) rfl ?_
    refine kx_call (z := 80) (as := [.ref 0]) (rest := [.ref 0]) (v := none) (h1 := h1) rfl (kx_ev_le (by omega) (hev _).1) ?_
    refine kx_st 1 (pc' := 8) (L' := [some (.ref 1000), some (.ref 0), none, none]) (st' := []) (h' := h1) rfl ?_
    refine kx_s1 (pc' := 11) (L' := [some (.ref 1000), some (.ref 0), none, none]) (st' := [.ref 65]) (h' := h1 ++ [.inr (9, kv_dv 9)]) ?_ ?_
    · have hat : kv_at 223 8 = some (.new 10, 3) := rfl
      have hlk : kv_lk kv_nw (kv_o 223) 10 = some (9, 816) := rfl
      simp only [kx_1, hat, kv_cl1, kv_re, kv_op, kv_hp, hlk, hl]
      rfl
    refine kx_st 1 (pc' := 12) (L' := [some (.ref 1000), some (.ref 0), none, none]) (st' := [.ref 65, .ref 65]) (h' := h1 ++ [.inr (9, kv_dv 9)]) rfl ?_
    refine kx_call (z := 129) (as := [.ref 65]) (rest := [.ref 65]) (v := none) (h1 := kv_wd g w) rfl (kx_ev_le (by omega) (hev _).2) ?_
    refine kx_st 3 (pc' := 18) (L' := [some (.ref 1000), some (.ref 0), some (.ref 65), some (.int 0)]) (st' := []) (h' := kv_wd g w) rfl ?_
    exact lw_loop hL ha hskip (fun g' w' => ⟨rfl, hsz⟩) (Ln / 6) 0 g w (by omega) (h0 g w hini)
  obtain ⟨n, r, hf, hr, rfl, hs⟩ := key
  exact ⟨900, n, hf, by omega, hr, hs⟩
