/-- what a voice of kind K does: its trace, its answer -/
def kx_VO (K act : Nat) : Prop := ∃ (l : List Int32) (F : Int32 → Int32 → Int32 → Int32), l.length ≤ 20 ∧ (∀ (E : kv_V) (d : Nat) (g : kv_S) (w : kv_W) (N M x : Int32), E 1001 = some (0, 7, kv_KA) → E 1003 = some (0, 28, kv_BO) → g 53 1 = 0 → g 53 2 = N → g 53 3 = M → g 53 4 = nI K → kv_ev E (d + 40) 77 [.ref 53, .int (nI act), .int x, .int 0] (kv_wd g w) (some (.int (F N M x))) (kv_wd (kx_nx g 0 l) w)) ∧ ∀ (E : kv_V) (d : Nat) (g : kv_S) (w : kv_W) (N M x : Int32), g 65 20 = 0 → g 65 21 = nI K → g 65 22 = N → g 65 23 = M → kv_ev E (d + 40) (match act with | 0 => 204 | 1 => 206 | 2 => 205 | _ => 207) [.ref 65, .int (nI K), .int x] (kv_wd g w) (some (.int (F N M x))) (kv_wd (kx_mx g 0 l) w)
theorem kx_vo : ∀ K, K < 7 → ∀ act, act < 4 → kx_VO K act := fun K hK act ha => match K, hK, act, ha with
  | 0, _, 0, _ => ⟨[10], fun N M x => x + N, by decide, fun E d g w N M x hE1 hE3 e1 e2 e3 e4 => kx_ev_le (d := d + 3) (by omega) (ev_own_0_0 (d := d) hE1 hE3 N M 0 ⟨e1, e2, e3, e4⟩ (by decide) x 0 (by decide)), fun E d g w N M x e1 e2 e3 e4 => kx_ev_le (d := d + 2) (by omega) (ev_bi_0 (d := d) N M _ 0 ⟨e1, e2, e3, e4⟩ (by decide) x)⟩
  | 0, _, 1, _ => ⟨[11, 10], fun N M x => (x + N) * 2, by decide, fun E d g w N M x hE1 hE3 e1 e2 e3 e4 => kx_ev_le (d := d + 5) (by omega) (ev_own_0_1 (d := d) hE1 hE3 N M 0 ⟨e1, e2, e3, e4⟩ (by decide) x 0 (by decide)), fun E d g w N M x e1 e2 e3 e4 => kx_ev_le (d := d + 3) (by omega) (ev_ti_0_0 (d := d) N M _ 0 ⟨e1, e2, e3, e4⟩ rfl (by decide) x)⟩
  | 0, _, 2, _ => ⟨[12], fun N M x => x - M, by decide, fun E d g w N M x hE1 hE3 e1 e2 e3 e4 => kx_ev_le (d := d + 3) (by omega) (ev_own_0_2 (d := d) hE1 hE3 N M 0 ⟨e1, e2, e3, e4⟩ (by decide) x 0 (by decide)), fun E d g w N M x e1 e2 e3 e4 => kx_ev_le (d := d + 2) (by omega) (ev_sl_0 (d := d) N M _ 0 ⟨e1, e2, e3, e4⟩ (by decide) x)⟩
  | 0, _, 3, _ => ⟨[13, 11, 10, 12], fun N M x => ((x + N) * 2) ^^^ (x - M), by decide, fun E d g w N M x hE1 hE3 e1 e2 e3 e4 => kx_ev_le (d := d + 7) (by omega) (ev_own_0_3 (d := d) hE1 hE3 N M 0 ⟨e1, e2, e3, e4⟩ (by decide) x 0 (by decide)), fun E d g w N M x e1 e2 e3 e4 => kx_ev_le (d := d + 4) (by omega) (ev_te_0_0 (d := d) N M _ 0 ⟨e1, e2, e3, e4⟩ rfl (by decide) x)⟩
  | 1, _, 0, _ => ⟨[20, 10], fun N M x => (x + N) * 3, by decide, fun E d g w N M x hE1 hE3 e1 e2 e3 e4 => kx_ev_le (d := d + 5) (by omega) (ev_own_1_0 (d := d) hE1 hE3 N M 0 ⟨e1, e2, e3, e4⟩ (by decide) x 0 (by decide)), fun E d g w N M x e1 e2 e3 e4 => kx_ev_le (d := d + 3) (by omega) (ev_bi_1 (d := d) N M _ 0 ⟨e1, e2, e3, e4⟩ (by decide) x)⟩
  | 1, _, 1, _ => ⟨[11, 20, 10], fun N M x => ((x + N) * 3) * 2, by decide, fun E d g w N M x hE1 hE3 e1 e2 e3 e4 => kx_ev_le (d := d + 7) (by omega) (ev_own_1_1 (d := d) hE1 hE3 N M 0 ⟨e1, e2, e3, e4⟩ (by decide) x 0 (by decide)), fun E d g w N M x e1 e2 e3 e4 => kx_ev_le (d := d + 5) (by omega) (ev_ti_1_1 (d := d) N M _ 0 ⟨e1, e2, e3, e4⟩ rfl (by decide) x)⟩
  | 1, _, 2, _ => ⟨[12], fun N M x => x - M, by decide, fun E d g w N M x hE1 hE3 e1 e2 e3 e4 => kx_ev_le (d := d + 3) (by omega) (ev_own_1_2 (d := d) hE1 hE3 N M 0 ⟨e1, e2, e3, e4⟩ (by decide) x 0 (by decide)), fun E d g w N M x e1 e2 e3 e4 => kx_ev_le (d := d + 3) (by omega) (ev_sl_1 (d := d) N M _ 0 ⟨e1, e2, e3, e4⟩ (by decide) x)⟩
  | 1, _, 3, _ => ⟨[13, 11, 20, 10, 12], fun N M x => (((x + N) * 3) * 2) ^^^ (x - M), by decide, fun E d g w N M x hE1 hE3 e1 e2 e3 e4 => kx_ev_le (d := d + 9) (by omega) (ev_own_1_3 (d := d) hE1 hE3 N M 0 ⟨e1, e2, e3, e4⟩ (by decide) x 0 (by decide)), fun E d g w N M x e1 e2 e3 e4 => kx_ev_le (d := d + 7) (by omega) (ev_te_1_1 (d := d) N M _ 0 ⟨e1, e2, e3, e4⟩ rfl (by decide) x)⟩
  | 2, _, 0, _ => ⟨[10], fun N M x => x + N, by decide, fun E d g w N M x hE1 hE3 e1 e2 e3 e4 => kx_ev_le (d := d + 3) (by omega) (ev_own_2_0 (d := d) hE1 hE3 N M 0 ⟨e1, e2, e3, e4⟩ (by decide) x 0 (by decide)), fun E d g w N M x e1 e2 e3 e4 => kx_ev_le (d := d + 3) (by omega) (ev_bi_2 (d := d) N M _ 0 ⟨e1, e2, e3, e4⟩ (by decide) x)⟩
  | 2, _, 1, _ => ⟨[30, 11, 10, 12], fun N M x => ((x + N) * 2) - (1 - M), by decide, fun E d g w N M x hE1 hE3 e1 e2 e3 e4 => kx_ev_le (d := d + 7) (by omega) (ev_own_2_1 (d := d) hE1 hE3 N M 0 ⟨e1, e2, e3, e4⟩ (by decide) x 0 (by decide)), fun E d g w N M x e1 e2 e3 e4 => kx_ev_le (d := d + 5) (by omega) (ev_ti_2_2 (d := d) N M _ 0 ⟨e1, e2, e3, e4⟩ rfl (by decide) x)⟩
  | 2, _, 2, _ => ⟨[12], fun N M x => x - M, by decide, fun E d g w N M x hE1 hE3 e1 e2 e3 e4 => kx_ev_le (d := d + 3) (by omega) (ev_own_2_2 (d := d) hE1 hE3 N M 0 ⟨e1, e2, e3, e4⟩ (by decide) x 0 (by decide)), fun E d g w N M x e1 e2 e3 e4 => kx_ev_le (d := d + 3) (by omega) (ev_sl_2 (d := d) N M _ 0 ⟨e1, e2, e3, e4⟩ (by decide) x)⟩
  | 2, _, 3, _ => ⟨[13, 30, 11, 10, 12, 12], fun N M x => (((x + N) * 2) - (1 - M)) ^^^ (x - M), by decide, fun E d g w N M x hE1 hE3 e1 e2 e3 e4 => kx_ev_le (d := d + 9) (by omega) (ev_own_2_3 (d := d) hE1 hE3 N M 0 ⟨e1, e2, e3, e4⟩ (by decide) x 0 (by decide)), fun E d g w N M x e1 e2 e3 e4 => kx_ev_le (d := d + 7) (by omega) (ev_te_2_2 (d := d) N M _ 0 ⟨e1, e2, e3, e4⟩ rfl (by decide) x)⟩
  | 3, _, 0, _ => ⟨[10], fun N M x => x + N, by decide, fun E d g w N M x hE1 hE3 e1 e2 e3 e4 => kx_ev_le (d := d + 3) (by omega) (ev_own_3_0 (d := d) hE1 hE3 N M 0 ⟨e1, e2, e3, e4⟩ (by decide) x 0 (by decide)), fun E d g w N M x e1 e2 e3 e4 => kx_ev_le (d := d + 3) (by omega) (ev_bi_3 (d := d) N M _ 0 ⟨e1, e2, e3, e4⟩ (by decide) x)⟩
  | 3, _, 1, _ => ⟨[11, 10], fun N M x => (x + N) * 2, by decide, fun E d g w N M x hE1 hE3 e1 e2 e3 e4 => kx_ev_le (d := d + 5) (by omega) (ev_own_3_1 (d := d) hE1 hE3 N M 0 ⟨e1, e2, e3, e4⟩ (by decide) x 0 (by decide)), fun E d g w N M x e1 e2 e3 e4 => kx_ev_le (d := d + 5) (by omega) (ev_ti_3_3 (d := d) N M _ 0 ⟨e1, e2, e3, e4⟩ rfl (by decide) x)⟩
  | 3, _, 2, _ => ⟨[40, 12], fun N M x => -(x - M), by decide, fun E d g w N M x hE1 hE3 e1 e2 e3 e4 => kx_ev_le (d := d + 5) (by omega) (ev_own_3_2 (d := d) hE1 hE3 N M 0 ⟨e1, e2, e3, e4⟩ (by decide) x 0 (by decide)), fun E d g w N M x e1 e2 e3 e4 => kx_ev_le (d := d + 3) (by omega) (ev_sl_3 (d := d) N M _ 0 ⟨e1, e2, e3, e4⟩ (by decide) x)⟩
  | 3, _, 3, _ => ⟨[13, 11, 10, 40, 12], fun N M x => ((x + N) * 2) ^^^ (-(x - M)), by decide, fun E d g w N M x hE1 hE3 e1 e2 e3 e4 => kx_ev_le (d := d + 7) (by omega) (ev_own_3_3 (d := d) hE1 hE3 N M 0 ⟨e1, e2, e3, e4⟩ (by decide) x 0 (by decide)), fun E d g w N M x e1 e2 e3 e4 => kx_ev_le (d := d + 7) (by omega) (ev_te_3_3 (d := d) N M _ 0 ⟨e1, e2, e3, e4⟩ rfl (by decide) x)⟩
  | 4, _, 0, _ => ⟨[20, 10], fun N M x => (x + N) * 3, by decide, fun E d g w N M x hE1 hE3 e1 e2 e3 e4 => kx_ev_le (d := d + 5) (by omega) (ev_own_4_0 (d := d) hE1 hE3 N M 0 ⟨e1, e2, e3, e4⟩ (by decide) x 0 (by decide)), fun E d g w N M x e1 e2 e3 e4 => kx_ev_le (d := d + 4) (by omega) (ev_bi_4 (d := d) N M _ 0 ⟨e1, e2, e3, e4⟩ (by decide) x)⟩
  | 4, _, 1, _ => ⟨[11, 20, 10], fun N M x => ((x + N) * 3) * 2, by decide, fun E d g w N M x hE1 hE3 e1 e2 e3 e4 => kx_ev_le (d := d + 7) (by omega) (ev_own_4_1 (d := d) hE1 hE3 N M 0 ⟨e1, e2, e3, e4⟩ (by decide) x 0 (by decide)), fun E d g w N M x e1 e2 e3 e4 => kx_ev_le (d := d + 7) (by omega) (ev_ti_4_4 (d := d) N M _ 0 ⟨e1, e2, e3, e4⟩ rfl (by decide) x)⟩
  | 4, _, 2, _ => ⟨[12], fun N M x => x - M, by decide, fun E d g w N M x hE1 hE3 e1 e2 e3 e4 => kx_ev_le (d := d + 3) (by omega) (ev_own_4_2 (d := d) hE1 hE3 N M 0 ⟨e1, e2, e3, e4⟩ (by decide) x 0 (by decide)), fun E d g w N M x e1 e2 e3 e4 => kx_ev_le (d := d + 4) (by omega) (ev_sl_4 (d := d) N M _ 0 ⟨e1, e2, e3, e4⟩ (by decide) x)⟩
  | 4, _, 3, _ => ⟨[50, 13, 11, 20, 10, 12, 20, 10], fun N M x => ((((x + N) * 3) * 2) ^^^ (x - M)) - ((2 + N) * 3), by decide, fun E d g w N M x hE1 hE3 e1 e2 e3 e4 => kx_ev_le (d := d + 11) (by omega) (ev_own_4_3 (d := d) hE1 hE3 N M 0 ⟨e1, e2, e3, e4⟩ (by decide) x 0 (by decide)), fun E d g w N M x e1 e2 e3 e4 => kx_ev_le (d := d + 10) (by omega) (ev_te_4_4 (d := d) N M _ 0 ⟨e1, e2, e3, e4⟩ rfl (by decide) x)⟩
  | 5, _, 0, _ => ⟨[10], fun N M x => x + N, by decide, fun E d g w N M x hE1 hE3 e1 e2 e3 e4 => kx_ev_le (d := d + 3) (by omega) (ev_own_5_0 (d := d) hE1 hE3 N M 0 ⟨e1, e2, e3, e4⟩ (by decide) x 0 (by decide)), fun E d g w N M x e1 e2 e3 e4 => kx_ev_le (d := d + 4) (by omega) (ev_bi_5 (d := d) N M _ 0 ⟨e1, e2, e3, e4⟩ (by decide) x)⟩
  | 5, _, 1, _ => ⟨[60, 30, 11, 10, 12], fun N M x => (((x + 1) + N) * 2) - (1 - M), by decide, fun E d g w N M x hE1 hE3 e1 e2 e3 e4 => kx_ev_le (d := d + 9) (by omega) (ev_own_5_1 (d := d) hE1 hE3 N M 0 ⟨e1, e2, e3, e4⟩ (by decide) x 0 (by decide)), fun E d g w N M x e1 e2 e3 e4 => kx_ev_le (d := d + 7) (by omega) (ev_ti_5_5 (d := d) N M _ 0 ⟨e1, e2, e3, e4⟩ rfl (by decide) x)⟩
  | 5, _, 2, _ => ⟨[12], fun N M x => x - M, by decide, fun E d g w N M x hE1 hE3 e1 e2 e3 e4 => kx_ev_le (d := d + 3) (by omega) (ev_own_5_2 (d := d) hE1 hE3 N M 0 ⟨e1, e2, e3, e4⟩ (by decide) x 0 (by decide)), fun E d g w N M x e1 e2 e3 e4 => kx_ev_le (d := d + 4) (by omega) (ev_sl_5 (d := d) N M _ 0 ⟨e1, e2, e3, e4⟩ (by decide) x)⟩
  | 5, _, 3, _ => ⟨[13, 60, 30, 11, 10, 12, 12], fun N M x => ((((x + 1) + N) * 2) - (1 - M)) ^^^ (x - M), by decide, fun E d g w N M x hE1 hE3 e1 e2 e3 e4 => kx_ev_le (d := d + 11) (by omega) (ev_own_5_3 (d := d) hE1 hE3 N M 0 ⟨e1, e2, e3, e4⟩ (by decide) x 0 (by decide)), fun E d g w N M x e1 e2 e3 e4 => kx_ev_le (d := d + 10) (by omega) (ev_te_5_5 (d := d) N M _ 0 ⟨e1, e2, e3, e4⟩ rfl (by decide) x)⟩
  | 6, _, 0, _ => ⟨[10], fun N M x => x + N, by decide, fun E d g w N M x hE1 hE3 e1 e2 e3 e4 => kx_ev_le (d := d + 3) (by omega) (ev_own_6_0 (d := d) hE1 hE3 N M 0 ⟨e1, e2, e3, e4⟩ (by decide) x 0 (by decide)), fun E d g w N M x e1 e2 e3 e4 => kx_ev_le (d := d + 4) (by omega) (ev_bi_6 (d := d) N M _ 0 ⟨e1, e2, e3, e4⟩ (by decide) x)⟩
  | 6, _, 1, _ => ⟨[11, 10], fun N M x => (x + N) * 2, by decide, fun E d g w N M x hE1 hE3 e1 e2 e3 e4 => kx_ev_le (d := d + 5) (by omega) (ev_own_6_1 (d := d) hE1 hE3 N M 0 ⟨e1, e2, e3, e4⟩ (by decide) x 0 (by decide)), fun E d g w N M x e1 e2 e3 e4 => kx_ev_le (d := d + 7) (by omega) (ev_ti_6_6 (d := d) N M _ 0 ⟨e1, e2, e3, e4⟩ rfl (by decide) x)⟩
  | 6, _, 2, _ => ⟨[70, 40, 12], fun N M x => (-(x - M)) ^^^ N, by decide, fun E d g w N M x hE1 hE3 e1 e2 e3 e4 => kx_ev_le (d := d + 7) (by omega) (ev_own_6_2 (d := d) hE1 hE3 N M 0 ⟨e1, e2, e3, e4⟩ (by decide) x 0 (by decide)), fun E d g w N M x e1 e2 e3 e4 => kx_ev_le (d := d + 4) (by omega) (ev_sl_6 (d := d) N M _ 0 ⟨e1, e2, e3, e4⟩ (by decide) x)⟩
  | 6, _, 3, _ => ⟨[71, 11, 10, 13, 11, 10, 70, 40, 12], fun N M x => ((x + N) * 2) - (((x + N) * 2) ^^^ ((-(x - M)) ^^^ N)), by decide, fun E d g w N M x hE1 hE3 e1 e2 e3 e4 => kx_ev_le (d := d + 11) (by omega) (ev_own_6_3 (d := d) hE1 hE3 N M 0 ⟨e1, e2, e3, e4⟩ (by decide) x 0 (by decide)), fun E d g w N M x e1 e2 e3 e4 => kx_ev_le (d := d + 10) (by omega) (ev_te_6_6 (d := d) N M _ 0 ⟨e1, e2, e3, e4⟩ rfl (by decide) x)⟩
  | K + 7, h, _, _ => absurd h (by omega)
  | 0, _, act + 4, h => absurd h (by omega)
  | 1, _, act + 4, h => absurd h (by omega)
  | 2, _, act + 4, h => absurd h (by omega)
  | 3, _, act + 4, h => absurd h (by omega)
  | 4, _, act + 4, h => absurd h (by omega)
  | 5, _, act + 4, h => absurd h (by omega)
  | 6, _, act + 4, h => absurd h (by omega)
theorem kx_Rl_tr {g g' : kv_S} {w : kv_W} {i : Nat} (h : kx_Rl kx_L g w i) (e : ∀ b, b ≠ 53 → b ≠ 54 → b ≠ 65 → b ≠ 75 → g' b = g b) (e65 : ∀ k, k < 20 → g' 65 k = g 65 k) (tr : kx_tr g') : kx_Rl kx_L g' w (i + 1) := by
  have f : ∀ b, b ≠ 53 ∧ b ≠ 54 ∧ b ≠ 65 ∧ b ≠ 75 → g' b = g b := fun b hb => e b hb.1 hb.2.1 hb.2.2.1 hb.2.2.2
  obtain ⟨h1, ⟨u1, u2, u3, u4⟩, h3, ⟨n, n1, n2, n3, n4⟩, h5, h6, h7⟩ := h
  refine ⟨h1, ⟨by rw [f 6 (by omega), u1], by rw [f 9 (by omega), u2], by rw [f 27 (by omega), u3], by rw [f 30 (by omega), u4]⟩, kx_hn_cg (fun b hb => f b (by omega)) (fun j _ => by rw [f 66 (by omega)]) h3, ⟨n, by omega, by rw [f 0 (by omega), n2], by rw [e65 5 (by omega), n3], ?_⟩, ?_, tr, ?_⟩
  · rcases n4 with ⟨z1, z2⟩ | ⟨z1, z2, z3⟩
    · exact Or.inl ⟨z1, by rw [e65 4 (by omega), z2]⟩
    · refine Or.inr ⟨z1, by rw [e65 4 (by omega), z2], ?_⟩
      unfold kx_hk at z3 ⊢
      rw [f 22 (by omega), f 23 (by omega), f 24 (by omega), f 25 (by omega), f 27 (by omega), f 28 (by omega), f 30 (by omega), f 31 (by omega), f 33 (by omega), f 34 (by omega), f 67 (by omega)]
      have ek : kx_kk g' = kx_kk g := by
        funext k
        unfold kx_kk
        split <;> exact f _ (by omega)
      rw [ek]
      exact z3
  · unfold kx_sh at h5 ⊢
    rw [f 56 (by omega), f 57 (by omega), f 58 (by omega), f 59 (by omega), f 60 (by omega), f 61 (by omega), f 62 (by omega), f 63 (by omega), f 71 (by omega), f 72 (by omega), f 73 (by omega)]
    exact h5
  · unfold kx_er at h7 ⊢
    rw [f 64 (by omega), f 70 (by omega)]
    exact h7
theorem kx_b3 {v : Int32} (h : 0 ≤ v ∧ v ≤ 3) : v = 0 ∨ v = 1 ∨ v = 2 ∨ v = 3 := by
  obtain ⟨k, hk, rfl⟩ := kx_nIof (n := 3) h.1 h.2 (by omega)
  rcases (show k = 0 ∨ k = 1 ∨ k = 2 ∨ k = 3 by omega) with rfl | rfl | rfl | rfl
  · exact Or.inl rfl
  · exact Or.inr (Or.inl rfl)
  · exact Or.inr (Or.inr (Or.inl rfl))
  · exact Or.inr (Or.inr (Or.inr rfl))
set_option maxRecDepth 100000 in
theorem pr_voice {E : kv_V} (hE1 : E 1001 = some (0, 7, kv_KA)) (hE3 : E 1003 = some (0, 28, kv_BO)) (a b c : Int32) : kx_ok2 E (kx_Rl kx_L) 110 208 [.int a, .int b, .int c] := by
  intro g w i hR hi
  obtain ⟨F0, F1, s, t, m, K, hF0, hF1, hX, hM, hKB, hKe⟩ := kx_Rl_XMK hR
  obtain ⟨q0, hq0, hm0, hb0, hy0⟩ := kx_Rl_q hR
  have q := hR.1
  have b1 := hX.2.1.1
  have b2 := hM.2.1.1
  have a1 := hX.1.1
  have a2 := hX.1.2.1
  have a4 := hX.1.2.2.2
  have d1 := hX.2.1.2.2
  have d2 := hM.2.1.2
  by_cases hv : 0 ≤ a ∧ a < nI m
  · obtain ⟨k, hkm, rfl⟩ := kx_nIlt hv.1 hv.2 (by omega)
    have hk8 : k < 8 := by omega
    have hK := hKB k hkm
    have kk : ∀ c, c < 9 → g (14 + k) c = K k c := hX.2.2.2.2 k hkm
    by_cases hc : 0 ≤ b ∧ b ≤ 3
    · obtain ⟨kd, kd6, ekd⟩ := hK.2.1
      have e0 : g (14 + k) 0 = nI kd := (kk 0 (by omega)).trans ekd
      have r0 : g 66 (26 + 9 * k + 0) = nI kd := (hKe k 0).symm.trans ekd
      have r1 : g 66 (26 + 9 * k + 1) = g (14 + k) 1 := (hKe k 1).symm.trans (kk 1 (by omega)).symm
      rcases kx_b3 hc with rfl | rfl | rfl | rfl
      · obtain ⟨l, F, hl, hx, hm⟩ := kx_vo kd (by omega) 0 (by omega)
        have es : kv_ev E 899 74 [.ref 53, .int (nI k), .ref (14 + k), .int 0, .int c] (kv_wd g w) (some (.int (F (nI k) (g (14 + k) 1) c))) (kv_wd (kx_nx (kv_up (kv_up (kv_up (kv_up g 53 1 0) 53 2 (nI k)) 53 3 (g (14 + k) 1)) 53 4 (g (14 + k) 0)) 0 l) w) := by
          refine kx_ev (d := 898) (by decide) (Nat.le_of_ble_eq_true rfl) ?_
          refine kx_st 0 (pc' := 0) (L' := [some (.ref 53), some (.int (nI k)), some (.ref (14 + k)), some (.int 0), some (.int c)]) (st' := []) (h' := kv_wd g w) rfl ?_
          refine kx_st 2 (pc' := 2) (L' := [some (.ref 53), some (.int (nI k)), some (.ref (14 + k)), some (.int 0), some (.int c)]) (st' := [.int 0, .ref 53]) (h' := kv_wd g w) rfl ?_
          refine kx_pf (i := 13) (k := 1) (x := 0) rfl rfl (by decide) rfl (Nat.le_of_ble_eq_true rfl) rfl rfl rfl ?_
          refine kx_st 2 (pc' := 7) (L' := [some (.ref 53), some (.int (nI k)), some (.ref (14 + k)), some (.int 0), some (.int c)]) (st' := [.int (nI k), .ref 53]) (h' := kv_wd (kv_up g 53 1 0) w) rfl ?_
          refine kx_pf (i := 17) (k := 2) (x := (nI k)) rfl rfl (by decide) rfl (Nat.le_of_ble_eq_true rfl) rfl rfl rfl ?_
          refine kx_st 2 (pc' := 12) (L' := [some (.ref 53), some (.int (nI k)), some (.ref (14 + k)), some (.int 0), some (.int c)]) (st' := [.ref (14 + k), .ref 53]) (h' := kv_wd (kv_up (kv_up g 53 1 0) 53 2 (nI k)) w) rfl ?_
          refine kx_gf (i := 26) (k := 1) (v := .int (g (14 + k) 1)) rfl rfl (kv_kn_h hk8).1 ((kv_kn_h hk8).2 _ _) (congrArg (fun z => some (Value.int z)) (congrFun (show (kv_up (kv_up g 53 1 0) 53 2 (nI k)) (14 + k) = g (14 + k) from by rw [kv_up_ne (by omega), kv_up_ne (by omega)]) 1)) ?_
          refine kx_pf (i := 20) (k := 3) (x := (g (14 + k) 1)) rfl rfl (by decide) rfl (Nat.le_of_ble_eq_true rfl) rfl rfl rfl ?_
          refine kx_st 2 (pc' := 20) (L' := [some (.ref 53), some (.int (nI k)), some (.ref (14 + k)), some (.int 0), some (.int c)]) (st' := [.ref (14 + k), .ref 53]) (h' := kv_wd (kv_up (kv_up (kv_up g 53 1 0) 53 2 (nI k)) 53 3 (g (14 + k) 1)) w) rfl ?_
          refine kx_gf (i := 29) (k := 0) (v := .int (g (14 + k) 0)) rfl rfl (kv_kn_h hk8).1 ((kv_kn_h hk8).2 _ _) (congrArg (fun z => some (Value.int z)) (congrFun (show (kv_up (kv_up (kv_up g 53 1 0) 53 2 (nI k)) 53 3 (g (14 + k) 1)) (14 + k) = g (14 + k) from by rw [kv_up_ne (by omega), kv_up_ne (by omega), kv_up_ne (by omega)]) 0)) ?_
          refine kx_pf (i := 23) (k := 4) (x := (g (14 + k) 0)) rfl rfl (by decide) rfl (Nat.le_of_ble_eq_true rfl) rfl rfl rfl ?_
          refine kx_st 4 (pc' := 31) (L' := [some (.ref 53), some (.int (nI k)), some (.ref (14 + k)), some (.int 0), some (.int c)]) (st' := [.int 0, .int c, .int 0, .ref 53]) (h' := kv_wd (kv_up (kv_up (kv_up (kv_up g 53 1 0) 53 2 (nI k)) 53 3 (g (14 + k) 1)) 53 4 (g (14 + k) 0)) w) rfl ?_
          refine kx_call (z := 77) (as := [.ref 53, .int 0, .int c, .int 0]) (rest := []) (v := some (.int (F (nI k) (g (14 + k) 1) c))) (h1 := kv_wd (kx_nx (kv_up (kv_up (kv_up (kv_up g 53 1 0) 53 2 (nI k)) 53 3 (g (14 + k) 1)) 53 4 (g (14 + k) 0)) 0 l) w) rfl (hx E 858 (kv_up (kv_up (kv_up (kv_up g 53 1 0) 53 2 (nI k)) 53 3 (g (14 + k) 1)) 53 4 (g (14 + k) 0)) w (nI k) (g (14 + k) 1) c hE1 hE3 rfl rfl rfl e0) ?_
          refine kx_st 0 (pc' := 34) (L' := [some (.ref 53), some (.int (nI k)), some (.ref (14 + k)), some (.int 0), some (.int c)]) (st' := [.int (F (nI k) (g (14 + k) 1) c)]) (h' := kv_wd (kx_nx (kv_up (kv_up (kv_up (kv_up g 53 1 0) 53 2 (nI k)) 53 3 (g (14 + k) 1)) 53 4 (g (14 + k) 0)) 0 l) w) rfl ?_
          refine kx_ret (v := some (.int (F (nI k) (g (14 + k) 1) c))) rfl ?_
          exact ⟨rfl, rfl⟩
        refine kx_two (by decide) (Nat.le_of_ble_eq_true rfl) (by decide) (Nat.le_of_ble_eq_true rfl) ?_
        refine kx_st 0 (pc' := 0) (L' := [some (.ref 0), some (.int (nI k)), some (.int 0), some (.int c), none]) (st' := []) (h' := kv_wd g w) rfl ?_
        refine kx_st 3 (pc' := 5) (L' := [some (.ref 0), some (.int (nI k)), some (.int 0), some (.int c), none]) (st' := [.int (nI k), .ref 1]) (h' := kv_wd g w) rfl ?_
        refine kx_call (z := 17) (as := [.ref 1, .int (nI k)]) (rest := []) (v := some (.ref (14 + k))) (h1 := kv_wd g w) rfl (ev_knotAt (d := 898) (g := g) q k hk8 (by rw [d1]; exact nI_lt hkm (by omega))) ?_
        refine kx_st 0 (pc' := 8) (L' := [some (.ref 0), some (.int (nI k)), some (.int 0), some (.int c), none]) (st' := [.ref (14 + k)]) (h' := kv_wd g w) rfl ?_
        refine kx_st 2 (pc' := 12) (L' := [some (.ref 0), some (.int (nI k)), some (.int 0), some (.int c), some (.ref (14 + k))]) (st' := [.ref (14 + k)]) (h' := kv_wd g w) rfl ?_
        refine kx_st 1 (pc' := 15) (L' := [some (.ref 0), some (.int (nI k)), some (.int 0), some (.int c), some (.ref (14 + k))]) (st' := []) (h' := kv_wd g w) rfl ?_
        refine kx_st 2 (pc' := 17) (L' := [some (.ref 0), some (.int (nI k)), some (.int 0), some (.int c), some (.ref (14 + k))]) (st' := [.int 3, .int 0]) (h' := kv_wd g w) rfl ?_
        refine kx_call (z := 124) (as := [.int 0, .int 3]) (rest := []) (v := some (.int (kx_b (0 ≤ (0 : Int32) ∧ (0 : Int32) ≤ 3)))) (h1 := kv_wd g w) rfl (ev_within (d := 898) 0 3) ?_
        refine kx_st 0 (pc' := 20) (L' := [some (.ref 0), some (.int (nI k)), some (.int 0), some (.int c), some (.ref (14 + k))]) (st' := [.int (kx_b (0 ≤ (0 : Int32) ∧ (0 : Int32) ≤ 3))]) (h' := kv_wd g w) rfl ?_
        refine kx_bn (t := 29) rfl rfl (fun (h20 : (0 ≤ (0 : Int32) ∧ (0 : Int32) ≤ 3)) => ?_) (fun (h20 : ¬ (0 ≤ (0 : Int32) ∧ (0 : Int32) ≤ 3)) => ?_)
        · refine kx_st 6 (pc' := 38) (L' := [some (.ref 0), some (.int (nI k)), some (.int 0), some (.int c), some (.ref (14 + k))]) (st' := [.int c, .int 0, .ref (14 + k), .int (nI k), .ref 53]) (h' := kv_wd g w) rfl ?_
          refine kx_call (z := 74) (as := [.ref 53, .int (nI k), .ref (14 + k), .int 0, .int c]) (rest := []) (v := some (.int (F (nI k) (g (14 + k) 1) c))) (h1 := kv_wd (kx_nx (kv_up (kv_up (kv_up (kv_up g 53 1 0) 53 2 (nI k)) 53 3 (g (14 + k) 1)) 53 4 (g (14 + k) 0)) 0 l) w) rfl es ?_
          refine kx_st 0 (pc' := 41) (L' := [some (.ref 0), some (.int (nI k)), some (.int 0), some (.int c), some (.ref (14 + k))]) (st' := [.int (F (nI k) (g (14 + k) 1) c)]) (h' := kv_wd (kx_nx (kv_up (kv_up (kv_up (kv_up g 53 1 0) 53 2 (nI k)) 53 3 (g (14 + k) 1)) 53 4 (g (14 + k) 0)) 0 l) w) rfl ?_
          refine kx_ret (v := some (.int (F (nI k) (g (14 + k) 1) c))) rfl ?_
          obtain ⟨x1, x2, x3, x4⟩ := kx_nx_f l (kv_up (kv_up (kv_up (kv_up g 53 1 0) 53 2 (nI k)) 53 3 (g (14 + k) 1)) 53 4 (g (14 + k) 0)) 0 rfl
          have f : ∀ b, b ≠ 53 → b ≠ 54 → (kx_nx (kv_up (kv_up (kv_up (kv_up g 53 1 0) 53 2 (nI k)) 53 3 (g (14 + k) 1)) 53 4 (g (14 + k) 0)) 0 l) b = g b := fun b b1 b2 => (x4 b b1 b2).trans (by rw [kv_up_ne b1, kv_up_ne b1, kv_up_ne b1, kv_up_ne b1])
          refine ⟨_, _, _, rfl, rfl, ?_⟩
          refine kx_st 0 (pc' := 0) (L' := [some (.ref 65), some (.int (nI k)), some (.int 0), some (.int c)]) (st' := []) (h' := kv_wd (kx_nx (kv_up (kv_up (kv_up (kv_up g 53 1 0) 53 2 (nI k)) 53 3 (g (14 + k) 1)) 53 4 (g (14 + k) 0)) 0 l) w) rfl ?_
          refine kx_st 2 (pc' := 2) (L' := [some (.ref 65), some (.int (nI k)), some (.int 0), some (.int c)]) (st' := [.int (nI k), .ref 65]) (h' := kv_wd (kx_nx (kv_up (kv_up (kv_up (kv_up g 53 1 0) 53 2 (nI k)) 53 3 (g (14 + k) 1)) 53 4 (g (14 + k) 0)) 0 l) w) rfl ?_
          refine kx_call (z := 139) (as := [.ref 65, .int (nI k)]) (rest := []) (v := some (.int (kx_b (0 ≤ nI k ∧ nI k < nI m)))) (h1 := kv_wd (kx_nx (kv_up (kv_up (kv_up (kv_up g 53 1 0) 53 2 (nI k)) 53 3 (g (14 + k) 1)) 53 4 (g (14 + k) 0)) 0 l) w) rfl (ev_mKnotS (d := 897) (g := kx_nx (kv_up (kv_up (kv_up (kv_up g 53 1 0) 53 2 (nI k)) 53 3 (g (14 + k) 1)) 53 4 (g (14 + k) 0)) 0 l) (s := m) (by rw [f 66 (by omega) (by omega)]; exact d2) a4 (nI k)) ?_
          refine kx_st 0 (pc' := 5) (L' := [some (.ref 65), some (.int (nI k)), some (.int 0), some (.int c)]) (st' := [.int (kx_b (0 ≤ nI k ∧ nI k < nI m))]) (h' := kv_wd (kx_nx (kv_up (kv_up (kv_up (kv_up g 53 1 0) 53 2 (nI k)) 53 3 (g (14 + k) 1)) 53 4 (g (14 + k) 0)) 0 l) w) rfl ?_
          refine kx_be (t := 17) rfl rfl (fun (m5 : ¬ (0 ≤ nI k ∧ nI k < nI m)) => ?_) (fun (m5 : (0 ≤ nI k ∧ nI k < nI m)) => ?_)
          · exact absurd hv m5
          · refine kx_st 0 (pc' := 8) (L' := [some (.ref 65), some (.int (nI k)), some (.int 0), some (.int c)]) (st' := []) (h' := kv_wd (kx_nx (kv_up (kv_up (kv_up (kv_up g 53 1 0) 53 2 (nI k)) 53 3 (g (14 + k) 1)) 53 4 (g (14 + k) 0)) 0 l) w) rfl ?_
            refine kx_st 3 (pc' := 11) (L' := [some (.ref 65), some (.int (nI k)), some (.int 0), some (.int c)]) (st' := [.int 3, .int 0, .int 0]) (h' := kv_wd (kx_nx (kv_up (kv_up (kv_up (kv_up g 53 1 0) 53 2 (nI k)) 53 3 (g (14 + k) 1)) 53 4 (g (14 + k) 0)) 0 l) w) rfl ?_
            refine kx_call (z := 130) (as := [.int 0, .int 0, .int 3]) (rest := []) (v := some (.int (kx_b (0 ≤ (0 : Int32) ∧ (0 : Int32) ≤ 3)))) (h1 := kv_wd (kx_nx (kv_up (kv_up (kv_up (kv_up g 53 1 0) 53 2 (nI k)) 53 3 (g (14 + k) 1)) 53 4 (g (14 + k) 0)) 0 l) w) rfl (ev_in (d := 898) 0 0 3) ?_
            refine kx_st 0 (pc' := 14) (L' := [some (.ref 65), some (.int (nI k)), some (.int 0), some (.int c)]) (st' := [.int (kx_b (0 ≤ (0 : Int32) ∧ (0 : Int32) ≤ 3))]) (h' := kv_wd (kx_nx (kv_up (kv_up (kv_up (kv_up g 53 1 0) 53 2 (nI k)) 53 3 (g (14 + k) 1)) 53 4 (g (14 + k) 0)) 0 l) w) rfl ?_
            refine kx_bn (t := 24) rfl rfl (fun (m14 : (0 ≤ (0 : Int32) ∧ (0 : Int32) ≤ 3)) => ?_) (fun (m14 : ¬ (0 ≤ (0 : Int32) ∧ (0 : Int32) ≤ 3)) => ?_)
            · refine kx_st 2 (pc' := 26) (L' := [some (.ref 65), some (.int (nI k)), some (.int 0), some (.int c)]) (st' := [.int 0, .ref 65]) (h' := kv_wd (kx_nx (kv_up (kv_up (kv_up (kv_up g 53 1 0) 53 2 (nI k)) 53 3 (g (14 + k) 1)) 53 4 (g (14 + k) 0)) 0 l) w) rfl ?_
              refine kx_pf (i := 217) (k := 20) (x := 0) rfl rfl (by decide) rfl (Nat.le_of_ble_eq_true rfl) rfl rfl rfl ?_
              refine kx_st 4 (pc' := 33) (L' := [some (.ref 65), some (.int (nI k)), some (.int 0), some (.int c)]) (st' := [.int 0, .int (nI k), .ref 65, .ref 65]) (h' := kv_wd (kv_up (kx_nx (kv_up (kv_up (kv_up (kv_up g 53 1 0) 53 2 (nI k)) 53 3 (g (14 + k) 1)) 53 4 (g (14 + k) 0)) 0 l) 65 20 0) w) rfl ?_
              have ei0 := ev_its (E := E) (d := 898) (g := kv_up (kx_nx (kv_up (kv_up (kv_up (kv_up g 53 1 0) 53 2 (nI k)) 53 3 (g (14 + k) 1)) 53 4 (g (14 + k) 0)) 0 l) 65 20 0) (w := w) k 0 (by omega)
              rw [kv_up_ne (by omega), f 66 (by omega) (by omega), r0] at ei0
              refine kx_call (z := 136) (as := [.ref 65, .int (nI k), .int 0]) (rest := [.ref 65]) (v := some (.int (nI kd))) (h1 := kv_wd (kv_up (kx_nx (kv_up (kv_up (kv_up (kv_up g 53 1 0) 53 2 (nI k)) 53 3 (g (14 + k) 1)) 53 4 (g (14 + k) 0)) 0 l) 65 20 0) w) rfl ei0 ?_
              refine kx_st 0 (pc' := 36) (L' := [some (.ref 65), some (.int (nI k)), some (.int 0), some (.int c)]) (st' := [.int (nI kd), .ref 65]) (h' := kv_wd (kv_up (kx_nx (kv_up (kv_up (kv_up (kv_up g 53 1 0) 53 2 (nI k)) 53 3 (g (14 + k) 1)) 53 4 (g (14 + k) 0)) 0 l) 65 20 0) w) rfl ?_
              refine kx_pf (i := 235) (k := 21) (x := (nI kd)) rfl rfl (by decide) rfl (Nat.le_of_ble_eq_true rfl) rfl rfl rfl ?_
              refine kx_st 2 (pc' := 41) (L' := [some (.ref 65), some (.int (nI k)), some (.int 0), some (.int c)]) (st' := [.int (nI k), .ref 65]) (h' := kv_wd (kv_up (kv_up (kx_nx (kv_up (kv_up (kv_up (kv_up g 53 1 0) 53 2 (nI k)) 53 3 (g (14 + k) 1)) 53 4 (g (14 + k) 0)) 0 l) 65 20 0) 65 21 (nI kd)) w) rfl ?_
              refine kx_pf (i := 223) (k := 22) (x := (nI k)) rfl rfl (by decide) rfl (Nat.le_of_ble_eq_true rfl) rfl rfl rfl ?_
              refine kx_st 4 (pc' := 48) (L' := [some (.ref 65), some (.int (nI k)), some (.int 0), some (.int c)]) (st' := [.int 1, .int (nI k), .ref 65, .ref 65]) (h' := kv_wd (kv_up (kv_up (kv_up (kx_nx (kv_up (kv_up (kv_up (kv_up g 53 1 0) 53 2 (nI k)) 53 3 (g (14 + k) 1)) 53 4 (g (14 + k) 0)) 0 l) 65 20 0) 65 21 (nI kd)) 65 22 (nI k)) w) rfl ?_
              have ei1 := ev_its (E := E) (d := 898) (g := kv_up (kv_up (kv_up (kx_nx (kv_up (kv_up (kv_up (kv_up g 53 1 0) 53 2 (nI k)) 53 3 (g (14 + k) 1)) 53 4 (g (14 + k) 0)) 0 l) 65 20 0) 65 21 (nI kd)) 65 22 (nI k)) (w := w) k 1 (by omega)
              rw [kv_up_ne (by omega), kv_up_ne (by omega), kv_up_ne (by omega), f 66 (by omega) (by omega), r1] at ei1
              refine kx_call (z := 136) (as := [.ref 65, .int (nI k), .int 1]) (rest := [.ref 65]) (v := some (.int (g (14 + k) 1))) (h1 := kv_wd (kv_up (kv_up (kv_up (kx_nx (kv_up (kv_up (kv_up (kv_up g 53 1 0) 53 2 (nI k)) 53 3 (g (14 + k) 1)) 53 4 (g (14 + k) 0)) 0 l) 65 20 0) 65 21 (nI kd)) 65 22 (nI k)) w) rfl ei1 ?_
              refine kx_st 0 (pc' := 51) (L' := [some (.ref 65), some (.int (nI k)), some (.int 0), some (.int c)]) (st' := [.int (g (14 + k) 1), .ref 65]) (h' := kv_wd (kv_up (kv_up (kv_up (kx_nx (kv_up (kv_up (kv_up (kv_up g 53 1 0) 53 2 (nI k)) 53 3 (g (14 + k) 1)) 53 4 (g (14 + k) 0)) 0 l) 65 20 0) 65 21 (nI kd)) 65 22 (nI k)) w) rfl ?_
              refine kx_pf (i := 229) (k := 23) (x := (g (14 + k) 1)) rfl rfl (by decide) rfl (Nat.le_of_ble_eq_true rfl) rfl rfl rfl ?_
              refine kx_st 6 (pc' := 86) (L' := [some (.ref 65), some (.int (nI k)), some (.int 0), some (.int c)]) (st' := [.int c, .int ((kv_up (kv_up (kv_up (kv_up (kx_nx (kv_up (kv_up (kv_up (kv_up g 53 1 0) 53 2 (nI k)) 53 3 (g (14 + k) 1)) 53 4 (g (14 + k) 0)) 0 l) 65 20 0) 65 21 (nI kd)) 65 22 (nI k)) 65 23 (g (14 + k) 1)) 65 21), .ref 65]) (h' := kv_wd (kv_up (kv_up (kv_up (kv_up (kx_nx (kv_up (kv_up (kv_up (kv_up g 53 1 0) 53 2 (nI k)) 53 3 (g (14 + k) 1)) 53 4 (g (14 + k) 0)) 0 l) 65 20 0) 65 21 (nI kd)) 65 22 (nI k)) 65 23 (g (14 + k) 1)) w) rfl ?_
              refine kx_call (z := 204) (as := [.ref 65, .int ((kv_up (kv_up (kv_up (kv_up (kx_nx (kv_up (kv_up (kv_up (kv_up g 53 1 0) 53 2 (nI k)) 53 3 (g (14 + k) 1)) 53 4 (g (14 + k) 0)) 0 l) 65 20 0) 65 21 (nI kd)) 65 22 (nI k)) 65 23 (g (14 + k) 1)) 65 21), .int c]) (rest := []) (v := some (.int (F (nI k) (g (14 + k) 1) c))) (h1 := kv_wd (kx_mx (kv_up (kv_up (kv_up (kv_up (kx_nx (kv_up (kv_up (kv_up (kv_up g 53 1 0) 53 2 (nI k)) 53 3 (g (14 + k) 1)) 53 4 (g (14 + k) 0)) 0 l) 65 20 0) 65 21 (nI kd)) 65 22 (nI k)) 65 23 (g (14 + k) 1)) 0 l) w) rfl (hm E 859 (kv_up (kv_up (kv_up (kv_up (kx_nx (kv_up (kv_up (kv_up (kv_up g 53 1 0) 53 2 (nI k)) 53 3 (g (14 + k) 1)) 53 4 (g (14 + k) 0)) 0 l) 65 20 0) 65 21 (nI kd)) 65 22 (nI k)) 65 23 (g (14 + k) 1)) w (nI k) (g (14 + k) 1) c rfl rfl rfl rfl) ?_
              refine kx_st 0 (pc' := 89) (L' := [some (.ref 65), some (.int (nI k)), some (.int 0), some (.int c)]) (st' := [.int (F (nI k) (g (14 + k) 1) c)]) (h' := kv_wd (kx_mx (kv_up (kv_up (kv_up (kv_up (kx_nx (kv_up (kv_up (kv_up (kv_up g 53 1 0) 53 2 (nI k)) 53 3 (g (14 + k) 1)) 53 4 (g (14 + k) 0)) 0 l) 65 20 0) 65 21 (nI kd)) 65 22 (nI k)) 65 23 (g (14 + k) 1)) 0 l) w) rfl ?_
              refine kx_ret (v := some (.int (F (nI k) (g (14 + k) 1) c))) rfl ?_
              obtain ⟨y1, y2, y3, y4⟩ := kx_mx_f l (kv_up (kv_up (kv_up (kv_up (kx_nx (kv_up (kv_up (kv_up (kv_up g 53 1 0) 53 2 (nI k)) 53 3 (g (14 + k) 1)) 53 4 (g (14 + k) 0)) 0 l) 65 20 0) 65 21 (nI kd)) 65 22 (nI k)) 65 23 (g (14 + k) 1)) 0 rfl
              refine ⟨rfl, _, _, rfl, kx_Rl_tr hR (fun b b53 b54 b65 b75 => ?_) (fun k hk => ?_) ⟨l.length, by omega, ?_, ?_, fun j hj => ?_⟩⟩
              · rw [y4 b b65 b75, kv_up_ne b65, kv_up_ne b65, kv_up_ne b65, kv_up_ne b65]; exact f b b53 b54
              · rw [y2 k (by omega), kv_up_at, kx_upn (by omega), kv_up_at, kx_upn (by omega), kv_up_at, kx_upn (by omega), kv_up_at, kx_upn (by omega), f 65 (by omega) (by omega)]
              · rw [y4 53 (by omega) (by omega), kv_up_ne (by omega), kv_up_ne (by omega), kv_up_ne (by omega), kv_up_ne (by omega), x1, Nat.zero_add]
              · rw [y1, Nat.zero_add]
              · rw [y3, y4 54 (by omega) (by omega), kv_up_ne (by omega), kv_up_ne (by omega), kv_up_ne (by omega), kv_up_ne (by omega), x3, if_pos (by omega), if_pos (by omega)]
            · exact absurd hc m14
        · exact absurd hc h20
      · obtain ⟨l, F, hl, hx, hm⟩ := kx_vo kd (by omega) 1 (by omega)
        have es : kv_ev E 899 74 [.ref 53, .int (nI k), .ref (14 + k), .int 1, .int c] (kv_wd g w) (some (.int (F (nI k) (g (14 + k) 1) c))) (kv_wd (kx_nx (kv_up (kv_up (kv_up (kv_up g 53 1 0) 53 2 (nI k)) 53 3 (g (14 + k) 1)) 53 4 (g (14 + k) 0)) 0 l) w) := by
          refine kx_ev (d := 898) (by decide) (Nat.le_of_ble_eq_true rfl) ?_
          refine kx_st 0 (pc' := 0) (L' := [some (.ref 53), some (.int (nI k)), some (.ref (14 + k)), some (.int 1), some (.int c)]) (st' := []) (h' := kv_wd g w) rfl ?_
          refine kx_st 2 (pc' := 2) (L' := [some (.ref 53), some (.int (nI k)), some (.ref (14 + k)), some (.int 1), some (.int c)]) (st' := [.int 0, .ref 53]) (h' := kv_wd g w) rfl ?_
          refine kx_pf (i := 13) (k := 1) (x := 0) rfl rfl (by decide) rfl (Nat.le_of_ble_eq_true rfl) rfl rfl rfl ?_
          refine kx_st 2 (pc' := 7) (L' := [some (.ref 53), some (.int (nI k)), some (.ref (14 + k)), some (.int 1), some (.int c)]) (st' := [.int (nI k), .ref 53]) (h' := kv_wd (kv_up g 53 1 0) w) rfl ?_
          refine kx_pf (i := 17) (k := 2) (x := (nI k)) rfl rfl (by decide) rfl (Nat.le_of_ble_eq_true rfl) rfl rfl rfl ?_
          refine kx_st 2 (pc' := 12) (L' := [some (.ref 53), some (.int (nI k)), some (.ref (14 + k)), some (.int 1), some (.int c)]) (st' := [.ref (14 + k), .ref 53]) (h' := kv_wd (kv_up (kv_up g 53 1 0) 53 2 (nI k)) w) rfl ?_
          refine kx_gf (i := 26) (k := 1) (v := .int (g (14 + k) 1)) rfl rfl (kv_kn_h hk8).1 ((kv_kn_h hk8).2 _ _) (congrArg (fun z => some (Value.int z)) (congrFun (show (kv_up (kv_up g 53 1 0) 53 2 (nI k)) (14 + k) = g (14 + k) from by rw [kv_up_ne (by omega), kv_up_ne (by omega)]) 1)) ?_
          refine kx_pf (i := 20) (k := 3) (x := (g (14 + k) 1)) rfl rfl (by decide) rfl (Nat.le_of_ble_eq_true rfl) rfl rfl rfl ?_
          refine kx_st 2 (pc' := 20) (L' := [some (.ref 53), some (.int (nI k)), some (.ref (14 + k)), some (.int 1), some (.int c)]) (st' := [.ref (14 + k), .ref 53]) (h' := kv_wd (kv_up (kv_up (kv_up g 53 1 0) 53 2 (nI k)) 53 3 (g (14 + k) 1)) w) rfl ?_
          refine kx_gf (i := 29) (k := 0) (v := .int (g (14 + k) 0)) rfl rfl (kv_kn_h hk8).1 ((kv_kn_h hk8).2 _ _) (congrArg (fun z => some (Value.int z)) (congrFun (show (kv_up (kv_up (kv_up g 53 1 0) 53 2 (nI k)) 53 3 (g (14 + k) 1)) (14 + k) = g (14 + k) from by rw [kv_up_ne (by omega), kv_up_ne (by omega), kv_up_ne (by omega)]) 0)) ?_
          refine kx_pf (i := 23) (k := 4) (x := (g (14 + k) 0)) rfl rfl (by decide) rfl (Nat.le_of_ble_eq_true rfl) rfl rfl rfl ?_
          refine kx_st 4 (pc' := 31) (L' := [some (.ref 53), some (.int (nI k)), some (.ref (14 + k)), some (.int 1), some (.int c)]) (st' := [.int 0, .int c, .int 1, .ref 53]) (h' := kv_wd (kv_up (kv_up (kv_up (kv_up g 53 1 0) 53 2 (nI k)) 53 3 (g (14 + k) 1)) 53 4 (g (14 + k) 0)) w) rfl ?_
          refine kx_call (z := 77) (as := [.ref 53, .int 1, .int c, .int 0]) (rest := []) (v := some (.int (F (nI k) (g (14 + k) 1) c))) (h1 := kv_wd (kx_nx (kv_up (kv_up (kv_up (kv_up g 53 1 0) 53 2 (nI k)) 53 3 (g (14 + k) 1)) 53 4 (g (14 + k) 0)) 0 l) w) rfl (hx E 858 (kv_up (kv_up (kv_up (kv_up g 53 1 0) 53 2 (nI k)) 53 3 (g (14 + k) 1)) 53 4 (g (14 + k) 0)) w (nI k) (g (14 + k) 1) c hE1 hE3 rfl rfl rfl e0) ?_
          refine kx_st 0 (pc' := 34) (L' := [some (.ref 53), some (.int (nI k)), some (.ref (14 + k)), some (.int 1), some (.int c)]) (st' := [.int (F (nI k) (g (14 + k) 1) c)]) (h' := kv_wd (kx_nx (kv_up (kv_up (kv_up (kv_up g 53 1 0) 53 2 (nI k)) 53 3 (g (14 + k) 1)) 53 4 (g (14 + k) 0)) 0 l) w) rfl ?_
          refine kx_ret (v := some (.int (F (nI k) (g (14 + k) 1) c))) rfl ?_
          exact ⟨rfl, rfl⟩
        refine kx_two (by decide) (Nat.le_of_ble_eq_true rfl) (by decide) (Nat.le_of_ble_eq_true rfl) ?_
        refine kx_st 0 (pc' := 0) (L' := [some (.ref 0), some (.int (nI k)), some (.int 1), some (.int c), none]) (st' := []) (h' := kv_wd g w) rfl ?_
        refine kx_st 3 (pc' := 5) (L' := [some (.ref 0), some (.int (nI k)), some (.int 1), some (.int c), none]) (st' := [.int (nI k), .ref 1]) (h' := kv_wd g w) rfl ?_
        refine kx_call (z := 17) (as := [.ref 1, .int (nI k)]) (rest := []) (v := some (.ref (14 + k))) (h1 := kv_wd g w) rfl (ev_knotAt (d := 898) (g := g) q k hk8 (by rw [d1]; exact nI_lt hkm (by omega))) ?_
        refine kx_st 0 (pc' := 8) (L' := [some (.ref 0), some (.int (nI k)), some (.int 1), some (.int c), none]) (st' := [.ref (14 + k)]) (h' := kv_wd g w) rfl ?_
        refine kx_st 2 (pc' := 12) (L' := [some (.ref 0), some (.int (nI k)), some (.int 1), some (.int c), some (.ref (14 + k))]) (st' := [.ref (14 + k)]) (h' := kv_wd g w) rfl ?_
        refine kx_st 1 (pc' := 15) (L' := [some (.ref 0), some (.int (nI k)), some (.int 1), some (.int c), some (.ref (14 + k))]) (st' := []) (h' := kv_wd g w) rfl ?_
        refine kx_st 2 (pc' := 17) (L' := [some (.ref 0), some (.int (nI k)), some (.int 1), some (.int c), some (.ref (14 + k))]) (st' := [.int 3, .int 1]) (h' := kv_wd g w) rfl ?_
        refine kx_call (z := 124) (as := [.int 1, .int 3]) (rest := []) (v := some (.int (kx_b (0 ≤ (1 : Int32) ∧ (1 : Int32) ≤ 3)))) (h1 := kv_wd g w) rfl (ev_within (d := 898) 1 3) ?_
        refine kx_st 0 (pc' := 20) (L' := [some (.ref 0), some (.int (nI k)), some (.int 1), some (.int c), some (.ref (14 + k))]) (st' := [.int (kx_b (0 ≤ (1 : Int32) ∧ (1 : Int32) ≤ 3))]) (h' := kv_wd g w) rfl ?_
        refine kx_bn (t := 29) rfl rfl (fun (h20 : (0 ≤ (1 : Int32) ∧ (1 : Int32) ≤ 3)) => ?_) (fun (h20 : ¬ (0 ≤ (1 : Int32) ∧ (1 : Int32) ≤ 3)) => ?_)
        · refine kx_st 6 (pc' := 38) (L' := [some (.ref 0), some (.int (nI k)), some (.int 1), some (.int c), some (.ref (14 + k))]) (st' := [.int c, .int 1, .ref (14 + k), .int (nI k), .ref 53]) (h' := kv_wd g w) rfl ?_
          refine kx_call (z := 74) (as := [.ref 53, .int (nI k), .ref (14 + k), .int 1, .int c]) (rest := []) (v := some (.int (F (nI k) (g (14 + k) 1) c))) (h1 := kv_wd (kx_nx (kv_up (kv_up (kv_up (kv_up g 53 1 0) 53 2 (nI k)) 53 3 (g (14 + k) 1)) 53 4 (g (14 + k) 0)) 0 l) w) rfl es ?_
          refine kx_st 0 (pc' := 41) (L' := [some (.ref 0), some (.int (nI k)), some (.int 1), some (.int c), some (.ref (14 + k))]) (st' := [.int (F (nI k) (g (14 + k) 1) c)]) (h' := kv_wd (kx_nx (kv_up (kv_up (kv_up (kv_up g 53 1 0) 53 2 (nI k)) 53 3 (g (14 + k) 1)) 53 4 (g (14 + k) 0)) 0 l) w) rfl ?_
          refine kx_ret (v := some (.int (F (nI k) (g (14 + k) 1) c))) rfl ?_
          obtain ⟨x1, x2, x3, x4⟩ := kx_nx_f l (kv_up (kv_up (kv_up (kv_up g 53 1 0) 53 2 (nI k)) 53 3 (g (14 + k) 1)) 53 4 (g (14 + k) 0)) 0 rfl
          have f : ∀ b, b ≠ 53 → b ≠ 54 → (kx_nx (kv_up (kv_up (kv_up (kv_up g 53 1 0) 53 2 (nI k)) 53 3 (g (14 + k) 1)) 53 4 (g (14 + k) 0)) 0 l) b = g b := fun b b1 b2 => (x4 b b1 b2).trans (by rw [kv_up_ne b1, kv_up_ne b1, kv_up_ne b1, kv_up_ne b1])
          refine ⟨_, _, _, rfl, rfl, ?_⟩
          refine kx_st 0 (pc' := 0) (L' := [some (.ref 65), some (.int (nI k)), some (.int 1), some (.int c)]) (st' := []) (h' := kv_wd (kx_nx (kv_up (kv_up (kv_up (kv_up g 53 1 0) 53 2 (nI k)) 53 3 (g (14 + k) 1)) 53 4 (g (14 + k) 0)) 0 l) w) rfl ?_
          refine kx_st 2 (pc' := 2) (L' := [some (.ref 65), some (.int (nI k)), some (.int 1), some (.int c)]) (st' := [.int (nI k), .ref 65]) (h' := kv_wd (kx_nx (kv_up (kv_up (kv_up (kv_up g 53 1 0) 53 2 (nI k)) 53 3 (g (14 + k) 1)) 53 4 (g (14 + k) 0)) 0 l) w) rfl ?_
          refine kx_call (z := 139) (as := [.ref 65, .int (nI k)]) (rest := []) (v := some (.int (kx_b (0 ≤ nI k ∧ nI k < nI m)))) (h1 := kv_wd (kx_nx (kv_up (kv_up (kv_up (kv_up g 53 1 0) 53 2 (nI k)) 53 3 (g (14 + k) 1)) 53 4 (g (14 + k) 0)) 0 l) w) rfl (ev_mKnotS (d := 897) (g := kx_nx (kv_up (kv_up (kv_up (kv_up g 53 1 0) 53 2 (nI k)) 53 3 (g (14 + k) 1)) 53 4 (g (14 + k) 0)) 0 l) (s := m) (by rw [f 66 (by omega) (by omega)]; exact d2) a4 (nI k)) ?_
          refine kx_st 0 (pc' := 5) (L' := [some (.ref 65), some (.int (nI k)), some (.int 1), some (.int c)]) (st' := [.int (kx_b (0 ≤ nI k ∧ nI k < nI m))]) (h' := kv_wd (kx_nx (kv_up (kv_up (kv_up (kv_up g 53 1 0) 53 2 (nI k)) 53 3 (g (14 + k) 1)) 53 4 (g (14 + k) 0)) 0 l) w) rfl ?_
          refine kx_be (t := 17) rfl rfl (fun (m5 : ¬ (0 ≤ nI k ∧ nI k < nI m)) => ?_) (fun (m5 : (0 ≤ nI k ∧ nI k < nI m)) => ?_)
          · exact absurd hv m5
          · refine kx_st 0 (pc' := 8) (L' := [some (.ref 65), some (.int (nI k)), some (.int 1), some (.int c)]) (st' := []) (h' := kv_wd (kx_nx (kv_up (kv_up (kv_up (kv_up g 53 1 0) 53 2 (nI k)) 53 3 (g (14 + k) 1)) 53 4 (g (14 + k) 0)) 0 l) w) rfl ?_
            refine kx_st 3 (pc' := 11) (L' := [some (.ref 65), some (.int (nI k)), some (.int 1), some (.int c)]) (st' := [.int 3, .int 0, .int 1]) (h' := kv_wd (kx_nx (kv_up (kv_up (kv_up (kv_up g 53 1 0) 53 2 (nI k)) 53 3 (g (14 + k) 1)) 53 4 (g (14 + k) 0)) 0 l) w) rfl ?_
            refine kx_call (z := 130) (as := [.int 1, .int 0, .int 3]) (rest := []) (v := some (.int (kx_b (0 ≤ (1 : Int32) ∧ (1 : Int32) ≤ 3)))) (h1 := kv_wd (kx_nx (kv_up (kv_up (kv_up (kv_up g 53 1 0) 53 2 (nI k)) 53 3 (g (14 + k) 1)) 53 4 (g (14 + k) 0)) 0 l) w) rfl (ev_in (d := 898) 1 0 3) ?_
            refine kx_st 0 (pc' := 14) (L' := [some (.ref 65), some (.int (nI k)), some (.int 1), some (.int c)]) (st' := [.int (kx_b (0 ≤ (1 : Int32) ∧ (1 : Int32) ≤ 3))]) (h' := kv_wd (kx_nx (kv_up (kv_up (kv_up (kv_up g 53 1 0) 53 2 (nI k)) 53 3 (g (14 + k) 1)) 53 4 (g (14 + k) 0)) 0 l) w) rfl ?_
            refine kx_bn (t := 24) rfl rfl (fun (m14 : (0 ≤ (1 : Int32) ∧ (1 : Int32) ≤ 3)) => ?_) (fun (m14 : ¬ (0 ≤ (1 : Int32) ∧ (1 : Int32) ≤ 3)) => ?_)
            · refine kx_st 2 (pc' := 26) (L' := [some (.ref 65), some (.int (nI k)), some (.int 1), some (.int c)]) (st' := [.int 0, .ref 65]) (h' := kv_wd (kx_nx (kv_up (kv_up (kv_up (kv_up g 53 1 0) 53 2 (nI k)) 53 3 (g (14 + k) 1)) 53 4 (g (14 + k) 0)) 0 l) w) rfl ?_
              refine kx_pf (i := 217) (k := 20) (x := 0) rfl rfl (by decide) rfl (Nat.le_of_ble_eq_true rfl) rfl rfl rfl ?_
              refine kx_st 4 (pc' := 33) (L' := [some (.ref 65), some (.int (nI k)), some (.int 1), some (.int c)]) (st' := [.int 0, .int (nI k), .ref 65, .ref 65]) (h' := kv_wd (kv_up (kx_nx (kv_up (kv_up (kv_up (kv_up g 53 1 0) 53 2 (nI k)) 53 3 (g (14 + k) 1)) 53 4 (g (14 + k) 0)) 0 l) 65 20 0) w) rfl ?_
              have ei0 := ev_its (E := E) (d := 898) (g := kv_up (kx_nx (kv_up (kv_up (kv_up (kv_up g 53 1 0) 53 2 (nI k)) 53 3 (g (14 + k) 1)) 53 4 (g (14 + k) 0)) 0 l) 65 20 0) (w := w) k 0 (by omega)
              rw [kv_up_ne (by omega), f 66 (by omega) (by omega), r0] at ei0
              refine kx_call (z := 136) (as := [.ref 65, .int (nI k), .int 0]) (rest := [.ref 65]) (v := some (.int (nI kd))) (h1 := kv_wd (kv_up (kx_nx (kv_up (kv_up (kv_up (kv_up g 53 1 0) 53 2 (nI k)) 53 3 (g (14 + k) 1)) 53 4 (g (14 + k) 0)) 0 l) 65 20 0) w) rfl ei0 ?_
              refine kx_st 0 (pc' := 36) (L' := [some (.ref 65), some (.int (nI k)), some (.int 1), some (.int c)]) (st' := [.int (nI kd), .ref 65]) (h' := kv_wd (kv_up (kx_nx (kv_up (kv_up (kv_up (kv_up g 53 1 0) 53 2 (nI k)) 53 3 (g (14 + k) 1)) 53 4 (g (14 + k) 0)) 0 l) 65 20 0) w) rfl ?_
              refine kx_pf (i := 235) (k := 21) (x := (nI kd)) rfl rfl (by decide) rfl (Nat.le_of_ble_eq_true rfl) rfl rfl rfl ?_
              refine kx_st 2 (pc' := 41) (L' := [some (.ref 65), some (.int (nI k)), some (.int 1), some (.int c)]) (st' := [.int (nI k), .ref 65]) (h' := kv_wd (kv_up (kv_up (kx_nx (kv_up (kv_up (kv_up (kv_up g 53 1 0) 53 2 (nI k)) 53 3 (g (14 + k) 1)) 53 4 (g (14 + k) 0)) 0 l) 65 20 0) 65 21 (nI kd)) w) rfl ?_
              refine kx_pf (i := 223) (k := 22) (x := (nI k)) rfl rfl (by decide) rfl (Nat.le_of_ble_eq_true rfl) rfl rfl rfl ?_
              refine kx_st 4 (pc' := 48) (L' := [some (.ref 65), some (.int (nI k)), some (.int 1), some (.int c)]) (st' := [.int 1, .int (nI k), .ref 65, .ref 65]) (h' := kv_wd (kv_up (kv_up (kv_up (kx_nx (kv_up (kv_up (kv_up (kv_up g 53 1 0) 53 2 (nI k)) 53 3 (g (14 + k) 1)) 53 4 (g (14 + k) 0)) 0 l) 65 20 0) 65 21 (nI kd)) 65 22 (nI k)) w) rfl ?_
              have ei1 := ev_its (E := E) (d := 898) (g := kv_up (kv_up (kv_up (kx_nx (kv_up (kv_up (kv_up (kv_up g 53 1 0) 53 2 (nI k)) 53 3 (g (14 + k) 1)) 53 4 (g (14 + k) 0)) 0 l) 65 20 0) 65 21 (nI kd)) 65 22 (nI k)) (w := w) k 1 (by omega)
              rw [kv_up_ne (by omega), kv_up_ne (by omega), kv_up_ne (by omega), f 66 (by omega) (by omega), r1] at ei1
              refine kx_call (z := 136) (as := [.ref 65, .int (nI k), .int 1]) (rest := [.ref 65]) (v := some (.int (g (14 + k) 1))) (h1 := kv_wd (kv_up (kv_up (kv_up (kx_nx (kv_up (kv_up (kv_up (kv_up g 53 1 0) 53 2 (nI k)) 53 3 (g (14 + k) 1)) 53 4 (g (14 + k) 0)) 0 l) 65 20 0) 65 21 (nI kd)) 65 22 (nI k)) w) rfl ei1 ?_
              refine kx_st 0 (pc' := 51) (L' := [some (.ref 65), some (.int (nI k)), some (.int 1), some (.int c)]) (st' := [.int (g (14 + k) 1), .ref 65]) (h' := kv_wd (kv_up (kv_up (kv_up (kx_nx (kv_up (kv_up (kv_up (kv_up g 53 1 0) 53 2 (nI k)) 53 3 (g (14 + k) 1)) 53 4 (g (14 + k) 0)) 0 l) 65 20 0) 65 21 (nI kd)) 65 22 (nI k)) w) rfl ?_
              refine kx_pf (i := 229) (k := 23) (x := (g (14 + k) 1)) rfl rfl (by decide) rfl (Nat.le_of_ble_eq_true rfl) rfl rfl rfl ?_
              refine kx_st 6 (pc' := 96) (L' := [some (.ref 65), some (.int (nI k)), some (.int 1), some (.int c)]) (st' := [.int c, .int ((kv_up (kv_up (kv_up (kv_up (kx_nx (kv_up (kv_up (kv_up (kv_up g 53 1 0) 53 2 (nI k)) 53 3 (g (14 + k) 1)) 53 4 (g (14 + k) 0)) 0 l) 65 20 0) 65 21 (nI kd)) 65 22 (nI k)) 65 23 (g (14 + k) 1)) 65 21), .ref 65]) (h' := kv_wd (kv_up (kv_up (kv_up (kv_up (kx_nx (kv_up (kv_up (kv_up (kv_up g 53 1 0) 53 2 (nI k)) 53 3 (g (14 + k) 1)) 53 4 (g (14 + k) 0)) 0 l) 65 20 0) 65 21 (nI kd)) 65 22 (nI k)) 65 23 (g (14 + k) 1)) w) rfl ?_
              refine kx_call (z := 206) (as := [.ref 65, .int ((kv_up (kv_up (kv_up (kv_up (kx_nx (kv_up (kv_up (kv_up (kv_up g 53 1 0) 53 2 (nI k)) 53 3 (g (14 + k) 1)) 53 4 (g (14 + k) 0)) 0 l) 65 20 0) 65 21 (nI kd)) 65 22 (nI k)) 65 23 (g (14 + k) 1)) 65 21), .int c]) (rest := []) (v := some (.int (F (nI k) (g (14 + k) 1) c))) (h1 := kv_wd (kx_mx (kv_up (kv_up (kv_up (kv_up (kx_nx (kv_up (kv_up (kv_up (kv_up g 53 1 0) 53 2 (nI k)) 53 3 (g (14 + k) 1)) 53 4 (g (14 + k) 0)) 0 l) 65 20 0) 65 21 (nI kd)) 65 22 (nI k)) 65 23 (g (14 + k) 1)) 0 l) w) rfl (hm E 859 (kv_up (kv_up (kv_up (kv_up (kx_nx (kv_up (kv_up (kv_up (kv_up g 53 1 0) 53 2 (nI k)) 53 3 (g (14 + k) 1)) 53 4 (g (14 + k) 0)) 0 l) 65 20 0) 65 21 (nI kd)) 65 22 (nI k)) 65 23 (g (14 + k) 1)) w (nI k) (g (14 + k) 1) c rfl rfl rfl rfl) ?_
              refine kx_st 0 (pc' := 99) (L' := [some (.ref 65), some (.int (nI k)), some (.int 1), some (.int c)]) (st' := [.int (F (nI k) (g (14 + k) 1) c)]) (h' := kv_wd (kx_mx (kv_up (kv_up (kv_up (kv_up (kx_nx (kv_up (kv_up (kv_up (kv_up g 53 1 0) 53 2 (nI k)) 53 3 (g (14 + k) 1)) 53 4 (g (14 + k) 0)) 0 l) 65 20 0) 65 21 (nI kd)) 65 22 (nI k)) 65 23 (g (14 + k) 1)) 0 l) w) rfl ?_
              refine kx_ret (v := some (.int (F (nI k) (g (14 + k) 1) c))) rfl ?_
              obtain ⟨y1, y2, y3, y4⟩ := kx_mx_f l (kv_up (kv_up (kv_up (kv_up (kx_nx (kv_up (kv_up (kv_up (kv_up g 53 1 0) 53 2 (nI k)) 53 3 (g (14 + k) 1)) 53 4 (g (14 + k) 0)) 0 l) 65 20 0) 65 21 (nI kd)) 65 22 (nI k)) 65 23 (g (14 + k) 1)) 0 rfl
              refine ⟨rfl, _, _, rfl, kx_Rl_tr hR (fun b b53 b54 b65 b75 => ?_) (fun k hk => ?_) ⟨l.length, by omega, ?_, ?_, fun j hj => ?_⟩⟩
              · rw [y4 b b65 b75, kv_up_ne b65, kv_up_ne b65, kv_up_ne b65, kv_up_ne b65]; exact f b b53 b54
              · rw [y2 k (by omega), kv_up_at, kx_upn (by omega), kv_up_at, kx_upn (by omega), kv_up_at, kx_upn (by omega), kv_up_at, kx_upn (by omega), f 65 (by omega) (by omega)]
              · rw [y4 53 (by omega) (by omega), kv_up_ne (by omega), kv_up_ne (by omega), kv_up_ne (by omega), kv_up_ne (by omega), x1, Nat.zero_add]
              · rw [y1, Nat.zero_add]
              · rw [y3, y4 54 (by omega) (by omega), kv_up_ne (by omega), kv_up_ne (by omega), kv_up_ne (by omega), kv_up_ne (by omega), x3, if_pos (by omega), if_pos (by omega)]
            · exact absurd hc m14
        · exact absurd hc h20
      · obtain ⟨l, F, hl, hx, hm⟩ := kx_vo kd (by omega) 2 (by omega)
        have es : kv_ev E 899 74 [.ref 53, .int (nI k), .ref (14 + k), .int 2, .int c] (kv_wd g w) (some (.int (F (nI k) (g (14 + k) 1) c))) (kv_wd (kx_nx (kv_up (kv_up (kv_up (kv_up g 53 1 0) 53 2 (nI k)) 53 3 (g (14 + k) 1)) 53 4 (g (14 + k) 0)) 0 l) w) := by
          refine kx_ev (d := 898) (by decide) (Nat.le_of_ble_eq_true rfl) ?_
          refine kx_st 0 (pc' := 0) (L' := [some (.ref 53), some (.int (nI k)), some (.ref (14 + k)), some (.int 2), some (.int c)]) (st' := []) (h' := kv_wd g w) rfl ?_
          refine kx_st 2 (pc' := 2) (L' := [some (.ref 53), some (.int (nI k)), some (.ref (14 + k)), some (.int 2), some (.int c)]) (st' := [.int 0, .ref 53]) (h' := kv_wd g w) rfl ?_
          refine kx_pf (i := 13) (k := 1) (x := 0) rfl rfl (by decide) rfl (Nat.le_of_ble_eq_true rfl) rfl rfl rfl ?_
          refine kx_st 2 (pc' := 7) (L' := [some (.ref 53), some (.int (nI k)), some (.ref (14 + k)), some (.int 2), some (.int c)]) (st' := [.int (nI k), .ref 53]) (h' := kv_wd (kv_up g 53 1 0) w) rfl ?_
          refine kx_pf (i := 17) (k := 2) (x := (nI k)) rfl rfl (by decide) rfl (Nat.le_of_ble_eq_true rfl) rfl rfl rfl ?_
          refine kx_st 2 (pc' := 12) (L' := [some (.ref 53), some (.int (nI k)), some (.ref (14 + k)), some (.int 2), some (.int c)]) (st' := [.ref (14 + k), .ref 53]) (h' := kv_wd (kv_up (kv_up g 53 1 0) 53 2 (nI k)) w) rfl ?_
          refine kx_gf (i := 26) (k := 1) (v := .int (g (14 + k) 1)) rfl rfl (kv_kn_h hk8).1 ((kv_kn_h hk8).2 _ _) (congrArg (fun z => some (Value.int z)) (congrFun (show (kv_up (kv_up g 53 1 0) 53 2 (nI k)) (14 + k) = g (14 + k) from by rw [kv_up_ne (by omega), kv_up_ne (by omega)]) 1)) ?_
          refine kx_pf (i := 20) (k := 3) (x := (g (14 + k) 1)) rfl rfl (by decide) rfl (Nat.le_of_ble_eq_true rfl) rfl rfl rfl ?_
          refine kx_st 2 (pc' := 20) (L' := [some (.ref 53), some (.int (nI k)), some (.ref (14 + k)), some (.int 2), some (.int c)]) (st' := [.ref (14 + k), .ref 53]) (h' := kv_wd (kv_up (kv_up (kv_up g 53 1 0) 53 2 (nI k)) 53 3 (g (14 + k) 1)) w) rfl ?_
          refine kx_gf (i := 29) (k := 0) (v := .int (g (14 + k) 0)) rfl rfl (kv_kn_h hk8).1 ((kv_kn_h hk8).2 _ _) (congrArg (fun z => some (Value.int z)) (congrFun (show (kv_up (kv_up (kv_up g 53 1 0) 53 2 (nI k)) 53 3 (g (14 + k) 1)) (14 + k) = g (14 + k) from by rw [kv_up_ne (by omega), kv_up_ne (by omega), kv_up_ne (by omega)]) 0)) ?_
          refine kx_pf (i := 23) (k := 4) (x := (g (14 + k) 0)) rfl rfl (by decide) rfl (Nat.le_of_ble_eq_true rfl) rfl rfl rfl ?_
          refine kx_st 4 (pc' := 31) (L' := [some (.ref 53), some (.int (nI k)), some (.ref (14 + k)), some (.int 2), some (.int c)]) (st' := [.int 0, .int c, .int 2, .ref 53]) (h' := kv_wd (kv_up (kv_up (kv_up (kv_up g 53 1 0) 53 2 (nI k)) 53 3 (g (14 + k) 1)) 53 4 (g (14 + k) 0)) w) rfl ?_
          refine kx_call (z := 77) (as := [.ref 53, .int 2, .int c, .int 0]) (rest := []) (v := some (.int (F (nI k) (g (14 + k) 1) c))) (h1 := kv_wd (kx_nx (kv_up (kv_up (kv_up (kv_up g 53 1 0) 53 2 (nI k)) 53 3 (g (14 + k) 1)) 53 4 (g (14 + k) 0)) 0 l) w) rfl (hx E 858 (kv_up (kv_up (kv_up (kv_up g 53 1 0) 53 2 (nI k)) 53 3 (g (14 + k) 1)) 53 4 (g (14 + k) 0)) w (nI k) (g (14 + k) 1) c hE1 hE3 rfl rfl rfl e0) ?_
          refine kx_st 0 (pc' := 34) (L' := [some (.ref 53), some (.int (nI k)), some (.ref (14 + k)), some (.int 2), some (.int c)]) (st' := [.int (F (nI k) (g (14 + k) 1) c)]) (h' := kv_wd (kx_nx (kv_up (kv_up (kv_up (kv_up g 53 1 0) 53 2 (nI k)) 53 3 (g (14 + k) 1)) 53 4 (g (14 + k) 0)) 0 l) w) rfl ?_
          refine kx_ret (v := some (.int (F (nI k) (g (14 + k) 1) c))) rfl ?_
          exact ⟨rfl, rfl⟩
        refine kx_two (by decide) (Nat.le_of_ble_eq_true rfl) (by decide) (Nat.le_of_ble_eq_true rfl) ?_
        refine kx_st 0 (pc' := 0) (L' := [some (.ref 0), some (.int (nI k)), some (.int 2), some (.int c), none]) (st' := []) (h' := kv_wd g w) rfl ?_
        refine kx_st 3 (pc' := 5) (L' := [some (.ref 0), some (.int (nI k)), some (.int 2), some (.int c), none]) (st' := [.int (nI k), .ref 1]) (h' := kv_wd g w) rfl ?_
        refine kx_call (z := 17) (as := [.ref 1, .int (nI k)]) (rest := []) (v := some (.ref (14 + k))) (h1 := kv_wd g w) rfl (ev_knotAt (d := 898) (g := g) q k hk8 (by rw [d1]; exact nI_lt hkm (by omega))) ?_
        refine kx_st 0 (pc' := 8) (L' := [some (.ref 0), some (.int (nI k)), some (.int 2), some (.int c), none]) (st' := [.ref (14 + k)]) (h' := kv_wd g w) rfl ?_
        refine kx_st 2 (pc' := 12) (L' := [some (.ref 0), some (.int (nI k)), some (.int 2), some (.int c), some (.ref (14 + k))]) (st' := [.ref (14 + k)]) (h' := kv_wd g w) rfl ?_
        refine kx_st 1 (pc' := 15) (L' := [some (.ref 0), some (.int (nI k)), some (.int 2), some (.int c), some (.ref (14 + k))]) (st' := []) (h' := kv_wd g w) rfl ?_
        refine kx_st 2 (pc' := 17) (L' := [some (.ref 0), some (.int (nI k)), some (.int 2), some (.int c), some (.ref (14 + k))]) (st' := [.int 3, .int 2]) (h' := kv_wd g w) rfl ?_
        refine kx_call (z := 124) (as := [.int 2, .int 3]) (rest := []) (v := some (.int (kx_b (0 ≤ (2 : Int32) ∧ (2 : Int32) ≤ 3)))) (h1 := kv_wd g w) rfl (ev_within (d := 898) 2 3) ?_
        refine kx_st 0 (pc' := 20) (L' := [some (.ref 0), some (.int (nI k)), some (.int 2), some (.int c), some (.ref (14 + k))]) (st' := [.int (kx_b (0 ≤ (2 : Int32) ∧ (2 : Int32) ≤ 3))]) (h' := kv_wd g w) rfl ?_
        refine kx_bn (t := 29) rfl rfl (fun (h20 : (0 ≤ (2 : Int32) ∧ (2 : Int32) ≤ 3)) => ?_) (fun (h20 : ¬ (0 ≤ (2 : Int32) ∧ (2 : Int32) ≤ 3)) => ?_)
        · refine kx_st 6 (pc' := 38) (L' := [some (.ref 0), some (.int (nI k)), some (.int 2), some (.int c), some (.ref (14 + k))]) (st' := [.int c, .int 2, .ref (14 + k), .int (nI k), .ref 53]) (h' := kv_wd g w) rfl ?_
          refine kx_call (z := 74) (as := [.ref 53, .int (nI k), .ref (14 + k), .int 2, .int c]) (rest := []) (v := some (.int (F (nI k) (g (14 + k) 1) c))) (h1 := kv_wd (kx_nx (kv_up (kv_up (kv_up (kv_up g 53 1 0) 53 2 (nI k)) 53 3 (g (14 + k) 1)) 53 4 (g (14 + k) 0)) 0 l) w) rfl es ?_
          refine kx_st 0 (pc' := 41) (L' := [some (.ref 0), some (.int (nI k)), some (.int 2), some (.int c), some (.ref (14 + k))]) (st' := [.int (F (nI k) (g (14 + k) 1) c)]) (h' := kv_wd (kx_nx (kv_up (kv_up (kv_up (kv_up g 53 1 0) 53 2 (nI k)) 53 3 (g (14 + k) 1)) 53 4 (g (14 + k) 0)) 0 l) w) rfl ?_
          refine kx_ret (v := some (.int (F (nI k) (g (14 + k) 1) c))) rfl ?_
          obtain ⟨x1, x2, x3, x4⟩ := kx_nx_f l (kv_up (kv_up (kv_up (kv_up g 53 1 0) 53 2 (nI k)) 53 3 (g (14 + k) 1)) 53 4 (g (14 + k) 0)) 0 rfl
          have f : ∀ b, b ≠ 53 → b ≠ 54 → (kx_nx (kv_up (kv_up (kv_up (kv_up g 53 1 0) 53 2 (nI k)) 53 3 (g (14 + k) 1)) 53 4 (g (14 + k) 0)) 0 l) b = g b := fun b b1 b2 => (x4 b b1 b2).trans (by rw [kv_up_ne b1, kv_up_ne b1, kv_up_ne b1, kv_up_ne b1])
          refine ⟨_, _, _, rfl, rfl, ?_⟩
          refine kx_st 0 (pc' := 0) (L' := [some (.ref 65), some (.int (nI k)), some (.int 2), some (.int c)]) (st' := []) (h' := kv_wd (kx_nx (kv_up (kv_up (kv_up (kv_up g 53 1 0) 53 2 (nI k)) 53 3 (g (14 + k) 1)) 53 4 (g (14 + k) 0)) 0 l) w) rfl ?_
          refine kx_st 2 (pc' := 2) (L' := [some (.ref 65), some (.int (nI k)), some (.int 2), some (.int c)]) (st' := [.int (nI k), .ref 65]) (h' := kv_wd (kx_nx (kv_up (kv_up (kv_up (kv_up g 53 1 0) 53 2 (nI k)) 53 3 (g (14 + k) 1)) 53 4 (g (14 + k) 0)) 0 l) w) rfl ?_
          refine kx_call (z := 139) (as := [.ref 65, .int (nI k)]) (rest := []) (v := some (.int (kx_b (0 ≤ nI k ∧ nI k < nI m)))) (h1 := kv_wd (kx_nx (kv_up (kv_up (kv_up (kv_up g 53 1 0) 53 2 (nI k)) 53 3 (g (14 + k) 1)) 53 4 (g (14 + k) 0)) 0 l) w) rfl (ev_mKnotS (d := 897) (g := kx_nx (kv_up (kv_up (kv_up (kv_up g 53 1 0) 53 2 (nI k)) 53 3 (g (14 + k) 1)) 53 4 (g (14 + k) 0)) 0 l) (s := m) (by rw [f 66 (by omega) (by omega)]; exact d2) a4 (nI k)) ?_
          refine kx_st 0 (pc' := 5) (L' := [some (.ref 65), some (.int (nI k)), some (.int 2), some (.int c)]) (st' := [.int (kx_b (0 ≤ nI k ∧ nI k < nI m))]) (h' := kv_wd (kx_nx (kv_up (kv_up (kv_up (kv_up g 53 1 0) 53 2 (nI k)) 53 3 (g (14 + k) 1)) 53 4 (g (14 + k) 0)) 0 l) w) rfl ?_
          refine kx_be (t := 17) rfl rfl (fun (m5 : ¬ (0 ≤ nI k ∧ nI k < nI m)) => ?_) (fun (m5 : (0 ≤ nI k ∧ nI k < nI m)) => ?_)
          · exact absurd hv m5
          · refine kx_st 0 (pc' := 8) (L' := [some (.ref 65), some (.int (nI k)), some (.int 2), some (.int c)]) (st' := []) (h' := kv_wd (kx_nx (kv_up (kv_up (kv_up (kv_up g 53 1 0) 53 2 (nI k)) 53 3 (g (14 + k) 1)) 53 4 (g (14 + k) 0)) 0 l) w) rfl ?_
            refine kx_st 3 (pc' := 11) (L' := [some (.ref 65), some (.int (nI k)), some (.int 2), some (.int c)]) (st' := [.int 3, .int 0, .int 2]) (h' := kv_wd (kx_nx (kv_up (kv_up (kv_up (kv_up g 53 1 0) 53 2 (nI k)) 53 3 (g (14 + k) 1)) 53 4 (g (14 + k) 0)) 0 l) w) rfl ?_
            refine kx_call (z := 130) (as := [.int 2, .int 0, .int 3]) (rest := []) (v := some (.int (kx_b (0 ≤ (2 : Int32) ∧ (2 : Int32) ≤ 3)))) (h1 := kv_wd (kx_nx (kv_up (kv_up (kv_up (kv_up g 53 1 0) 53 2 (nI k)) 53 3 (g (14 + k) 1)) 53 4 (g (14 + k) 0)) 0 l) w) rfl (ev_in (d := 898) 2 0 3) ?_
            refine kx_st 0 (pc' := 14) (L' := [some (.ref 65), some (.int (nI k)), some (.int 2), some (.int c)]) (st' := [.int (kx_b (0 ≤ (2 : Int32) ∧ (2 : Int32) ≤ 3))]) (h' := kv_wd (kx_nx (kv_up (kv_up (kv_up (kv_up g 53 1 0) 53 2 (nI k)) 53 3 (g (14 + k) 1)) 53 4 (g (14 + k) 0)) 0 l) w) rfl ?_
            refine kx_bn (t := 24) rfl rfl (fun (m14 : (0 ≤ (2 : Int32) ∧ (2 : Int32) ≤ 3)) => ?_) (fun (m14 : ¬ (0 ≤ (2 : Int32) ∧ (2 : Int32) ≤ 3)) => ?_)
            · refine kx_st 2 (pc' := 26) (L' := [some (.ref 65), some (.int (nI k)), some (.int 2), some (.int c)]) (st' := [.int 0, .ref 65]) (h' := kv_wd (kx_nx (kv_up (kv_up (kv_up (kv_up g 53 1 0) 53 2 (nI k)) 53 3 (g (14 + k) 1)) 53 4 (g (14 + k) 0)) 0 l) w) rfl ?_
              refine kx_pf (i := 217) (k := 20) (x := 0) rfl rfl (by decide) rfl (Nat.le_of_ble_eq_true rfl) rfl rfl rfl ?_
              refine kx_st 4 (pc' := 33) (L' := [some (.ref 65), some (.int (nI k)), some (.int 2), some (.int c)]) (st' := [.int 0, .int (nI k), .ref 65, .ref 65]) (h' := kv_wd (kv_up (kx_nx (kv_up (kv_up (kv_up (kv_up g 53 1 0) 53 2 (nI k)) 53 3 (g (14 + k) 1)) 53 4 (g (14 + k) 0)) 0 l) 65 20 0) w) rfl ?_
              have ei0 := ev_its (E := E) (d := 898) (g := kv_up (kx_nx (kv_up (kv_up (kv_up (kv_up g 53 1 0) 53 2 (nI k)) 53 3 (g (14 + k) 1)) 53 4 (g (14 + k) 0)) 0 l) 65 20 0) (w := w) k 0 (by omega)
              rw [kv_up_ne (by omega), f 66 (by omega) (by omega), r0] at ei0
              refine kx_call (z := 136) (as := [.ref 65, .int (nI k), .int 0]) (rest := [.ref 65]) (v := some (.int (nI kd))) (h1 := kv_wd (kv_up (kx_nx (kv_up (kv_up (kv_up (kv_up g 53 1 0) 53 2 (nI k)) 53 3 (g (14 + k) 1)) 53 4 (g (14 + k) 0)) 0 l) 65 20 0) w) rfl ei0 ?_
              refine kx_st 0 (pc' := 36) (L' := [some (.ref 65), some (.int (nI k)), some (.int 2), some (.int c)]) (st' := [.int (nI kd), .ref 65]) (h' := kv_wd (kv_up (kx_nx (kv_up (kv_up (kv_up (kv_up g 53 1 0) 53 2 (nI k)) 53 3 (g (14 + k) 1)) 53 4 (g (14 + k) 0)) 0 l) 65 20 0) w) rfl ?_
              refine kx_pf (i := 235) (k := 21) (x := (nI kd)) rfl rfl (by decide) rfl (Nat.le_of_ble_eq_true rfl) rfl rfl rfl ?_
              refine kx_st 2 (pc' := 41) (L' := [some (.ref 65), some (.int (nI k)), some (.int 2), some (.int c)]) (st' := [.int (nI k), .ref 65]) (h' := kv_wd (kv_up (kv_up (kx_nx (kv_up (kv_up (kv_up (kv_up g 53 1 0) 53 2 (nI k)) 53 3 (g (14 + k) 1)) 53 4 (g (14 + k) 0)) 0 l) 65 20 0) 65 21 (nI kd)) w) rfl ?_
              refine kx_pf (i := 223) (k := 22) (x := (nI k)) rfl rfl (by decide) rfl (Nat.le_of_ble_eq_true rfl) rfl rfl rfl ?_
              refine kx_st 4 (pc' := 48) (L' := [some (.ref 65), some (.int (nI k)), some (.int 2), some (.int c)]) (st' := [.int 1, .int (nI k), .ref 65, .ref 65]) (h' := kv_wd (kv_up (kv_up (kv_up (kx_nx (kv_up (kv_up (kv_up (kv_up g 53 1 0) 53 2 (nI k)) 53 3 (g (14 + k) 1)) 53 4 (g (14 + k) 0)) 0 l) 65 20 0) 65 21 (nI kd)) 65 22 (nI k)) w) rfl ?_
              have ei1 := ev_its (E := E) (d := 898) (g := kv_up (kv_up (kv_up (kx_nx (kv_up (kv_up (kv_up (kv_up g 53 1 0) 53 2 (nI k)) 53 3 (g (14 + k) 1)) 53 4 (g (14 + k) 0)) 0 l) 65 20 0) 65 21 (nI kd)) 65 22 (nI k)) (w := w) k 1 (by omega)
              rw [kv_up_ne (by omega), kv_up_ne (by omega), kv_up_ne (by omega), f 66 (by omega) (by omega), r1] at ei1
              refine kx_call (z := 136) (as := [.ref 65, .int (nI k), .int 1]) (rest := [.ref 65]) (v := some (.int (g (14 + k) 1))) (h1 := kv_wd (kv_up (kv_up (kv_up (kx_nx (kv_up (kv_up (kv_up (kv_up g 53 1 0) 53 2 (nI k)) 53 3 (g (14 + k) 1)) 53 4 (g (14 + k) 0)) 0 l) 65 20 0) 65 21 (nI kd)) 65 22 (nI k)) w) rfl ei1 ?_
              refine kx_st 0 (pc' := 51) (L' := [some (.ref 65), some (.int (nI k)), some (.int 2), some (.int c)]) (st' := [.int (g (14 + k) 1), .ref 65]) (h' := kv_wd (kv_up (kv_up (kv_up (kx_nx (kv_up (kv_up (kv_up (kv_up g 53 1 0) 53 2 (nI k)) 53 3 (g (14 + k) 1)) 53 4 (g (14 + k) 0)) 0 l) 65 20 0) 65 21 (nI kd)) 65 22 (nI k)) w) rfl ?_
              refine kx_pf (i := 229) (k := 23) (x := (g (14 + k) 1)) rfl rfl (by decide) rfl (Nat.le_of_ble_eq_true rfl) rfl rfl rfl ?_
              refine kx_st 6 (pc' := 106) (L' := [some (.ref 65), some (.int (nI k)), some (.int 2), some (.int c)]) (st' := [.int c, .int ((kv_up (kv_up (kv_up (kv_up (kx_nx (kv_up (kv_up (kv_up (kv_up g 53 1 0) 53 2 (nI k)) 53 3 (g (14 + k) 1)) 53 4 (g (14 + k) 0)) 0 l) 65 20 0) 65 21 (nI kd)) 65 22 (nI k)) 65 23 (g (14 + k) 1)) 65 21), .ref 65]) (h' := kv_wd (kv_up (kv_up (kv_up (kv_up (kx_nx (kv_up (kv_up (kv_up (kv_up g 53 1 0) 53 2 (nI k)) 53 3 (g (14 + k) 1)) 53 4 (g (14 + k) 0)) 0 l) 65 20 0) 65 21 (nI kd)) 65 22 (nI k)) 65 23 (g (14 + k) 1)) w) rfl ?_
              refine kx_call (z := 205) (as := [.ref 65, .int ((kv_up (kv_up (kv_up (kv_up (kx_nx (kv_up (kv_up (kv_up (kv_up g 53 1 0) 53 2 (nI k)) 53 3 (g (14 + k) 1)) 53 4 (g (14 + k) 0)) 0 l) 65 20 0) 65 21 (nI kd)) 65 22 (nI k)) 65 23 (g (14 + k) 1)) 65 21), .int c]) (rest := []) (v := some (.int (F (nI k) (g (14 + k) 1) c))) (h1 := kv_wd (kx_mx (kv_up (kv_up (kv_up (kv_up (kx_nx (kv_up (kv_up (kv_up (kv_up g 53 1 0) 53 2 (nI k)) 53 3 (g (14 + k) 1)) 53 4 (g (14 + k) 0)) 0 l) 65 20 0) 65 21 (nI kd)) 65 22 (nI k)) 65 23 (g (14 + k) 1)) 0 l) w) rfl (hm E 859 (kv_up (kv_up (kv_up (kv_up (kx_nx (kv_up (kv_up (kv_up (kv_up g 53 1 0) 53 2 (nI k)) 53 3 (g (14 + k) 1)) 53 4 (g (14 + k) 0)) 0 l) 65 20 0) 65 21 (nI kd)) 65 22 (nI k)) 65 23 (g (14 + k) 1)) w (nI k) (g (14 + k) 1) c rfl rfl rfl rfl) ?_
              refine kx_st 0 (pc' := 109) (L' := [some (.ref 65), some (.int (nI k)), some (.int 2), some (.int c)]) (st' := [.int (F (nI k) (g (14 + k) 1) c)]) (h' := kv_wd (kx_mx (kv_up (kv_up (kv_up (kv_up (kx_nx (kv_up (kv_up (kv_up (kv_up g 53 1 0) 53 2 (nI k)) 53 3 (g (14 + k) 1)) 53 4 (g (14 + k) 0)) 0 l) 65 20 0) 65 21 (nI kd)) 65 22 (nI k)) 65 23 (g (14 + k) 1)) 0 l) w) rfl ?_
              refine kx_ret (v := some (.int (F (nI k) (g (14 + k) 1) c))) rfl ?_
              obtain ⟨y1, y2, y3, y4⟩ := kx_mx_f l (kv_up (kv_up (kv_up (kv_up (kx_nx (kv_up (kv_up (kv_up (kv_up g 53 1 0) 53 2 (nI k)) 53 3 (g (14 + k) 1)) 53 4 (g (14 + k) 0)) 0 l) 65 20 0) 65 21 (nI kd)) 65 22 (nI k)) 65 23 (g (14 + k) 1)) 0 rfl
              refine ⟨rfl, _, _, rfl, kx_Rl_tr hR (fun b b53 b54 b65 b75 => ?_) (fun k hk => ?_) ⟨l.length, by omega, ?_, ?_, fun j hj => ?_⟩⟩
              · rw [y4 b b65 b75, kv_up_ne b65, kv_up_ne b65, kv_up_ne b65, kv_up_ne b65]; exact f b b53 b54
              · rw [y2 k (by omega), kv_up_at, kx_upn (by omega), kv_up_at, kx_upn (by omega), kv_up_at, kx_upn (by omega), kv_up_at, kx_upn (by omega), f 65 (by omega) (by omega)]
              · rw [y4 53 (by omega) (by omega), kv_up_ne (by omega), kv_up_ne (by omega), kv_up_ne (by omega), kv_up_ne (by omega), x1, Nat.zero_add]
              · rw [y1, Nat.zero_add]
              · rw [y3, y4 54 (by omega) (by omega), kv_up_ne (by omega), kv_up_ne (by omega), kv_up_ne (by omega), kv_up_ne (by omega), x3, if_pos (by omega), if_pos (by omega)]
            · exact absurd hc m14
        · exact absurd hc h20
      · obtain ⟨l, F, hl, hx, hm⟩ := kx_vo kd (by omega) 3 (by omega)
        have es : kv_ev E 899 74 [.ref 53, .int (nI k), .ref (14 + k), .int 3, .int c] (kv_wd g w) (some (.int (F (nI k) (g (14 + k) 1) c))) (kv_wd (kx_nx (kv_up (kv_up (kv_up (kv_up g 53 1 0) 53 2 (nI k)) 53 3 (g (14 + k) 1)) 53 4 (g (14 + k) 0)) 0 l) w) := by
          refine kx_ev (d := 898) (by decide) (Nat.le_of_ble_eq_true rfl) ?_
          refine kx_st 0 (pc' := 0) (L' := [some (.ref 53), some (.int (nI k)), some (.ref (14 + k)), some (.int 3), some (.int c)]) (st' := []) (h' := kv_wd g w) rfl ?_
          refine kx_st 2 (pc' := 2) (L' := [some (.ref 53), some (.int (nI k)), some (.ref (14 + k)), some (.int 3), some (.int c)]) (st' := [.int 0, .ref 53]) (h' := kv_wd g w) rfl ?_
          refine kx_pf (i := 13) (k := 1) (x := 0) rfl rfl (by decide) rfl (Nat.le_of_ble_eq_true rfl) rfl rfl rfl ?_
          refine kx_st 2 (pc' := 7) (L' := [some (.ref 53), some (.int (nI k)), some (.ref (14 + k)), some (.int 3), some (.int c)]) (st' := [.int (nI k), .ref 53]) (h' := kv_wd (kv_up g 53 1 0) w) rfl ?_
          refine kx_pf (i := 17) (k := 2) (x := (nI k)) rfl rfl (by decide) rfl (Nat.le_of_ble_eq_true rfl) rfl rfl rfl ?_
          refine kx_st 2 (pc' := 12) (L' := [some (.ref 53), some (.int (nI k)), some (.ref (14 + k)), some (.int 3), some (.int c)]) (st' := [.ref (14 + k), .ref 53]) (h' := kv_wd (kv_up (kv_up g 53 1 0) 53 2 (nI k)) w) rfl ?_
          refine kx_gf (i := 26) (k := 1) (v := .int (g (14 + k) 1)) rfl rfl (kv_kn_h hk8).1 ((kv_kn_h hk8).2 _ _) (congrArg (fun z => some (Value.int z)) (congrFun (show (kv_up (kv_up g 53 1 0) 53 2 (nI k)) (14 + k) = g (14 + k) from by rw [kv_up_ne (by omega), kv_up_ne (by omega)]) 1)) ?_
          refine kx_pf (i := 20) (k := 3) (x := (g (14 + k) 1)) rfl rfl (by decide) rfl (Nat.le_of_ble_eq_true rfl) rfl rfl rfl ?_
          refine kx_st 2 (pc' := 20) (L' := [some (.ref 53), some (.int (nI k)), some (.ref (14 + k)), some (.int 3), some (.int c)]) (st' := [.ref (14 + k), .ref 53]) (h' := kv_wd (kv_up (kv_up (kv_up g 53 1 0) 53 2 (nI k)) 53 3 (g (14 + k) 1)) w) rfl ?_
          refine kx_gf (i := 29) (k := 0) (v := .int (g (14 + k) 0)) rfl rfl (kv_kn_h hk8).1 ((kv_kn_h hk8).2 _ _) (congrArg (fun z => some (Value.int z)) (congrFun (show (kv_up (kv_up (kv_up g 53 1 0) 53 2 (nI k)) 53 3 (g (14 + k) 1)) (14 + k) = g (14 + k) from by rw [kv_up_ne (by omega), kv_up_ne (by omega), kv_up_ne (by omega)]) 0)) ?_
          refine kx_pf (i := 23) (k := 4) (x := (g (14 + k) 0)) rfl rfl (by decide) rfl (Nat.le_of_ble_eq_true rfl) rfl rfl rfl ?_
          refine kx_st 4 (pc' := 31) (L' := [some (.ref 53), some (.int (nI k)), some (.ref (14 + k)), some (.int 3), some (.int c)]) (st' := [.int 0, .int c, .int 3, .ref 53]) (h' := kv_wd (kv_up (kv_up (kv_up (kv_up g 53 1 0) 53 2 (nI k)) 53 3 (g (14 + k) 1)) 53 4 (g (14 + k) 0)) w) rfl ?_
          refine kx_call (z := 77) (as := [.ref 53, .int 3, .int c, .int 0]) (rest := []) (v := some (.int (F (nI k) (g (14 + k) 1) c))) (h1 := kv_wd (kx_nx (kv_up (kv_up (kv_up (kv_up g 53 1 0) 53 2 (nI k)) 53 3 (g (14 + k) 1)) 53 4 (g (14 + k) 0)) 0 l) w) rfl (hx E 858 (kv_up (kv_up (kv_up (kv_up g 53 1 0) 53 2 (nI k)) 53 3 (g (14 + k) 1)) 53 4 (g (14 + k) 0)) w (nI k) (g (14 + k) 1) c hE1 hE3 rfl rfl rfl e0) ?_
          refine kx_st 0 (pc' := 34) (L' := [some (.ref 53), some (.int (nI k)), some (.ref (14 + k)), some (.int 3), some (.int c)]) (st' := [.int (F (nI k) (g (14 + k) 1) c)]) (h' := kv_wd (kx_nx (kv_up (kv_up (kv_up (kv_up g 53 1 0) 53 2 (nI k)) 53 3 (g (14 + k) 1)) 53 4 (g (14 + k) 0)) 0 l) w) rfl ?_
          refine kx_ret (v := some (.int (F (nI k) (g (14 + k) 1) c))) rfl ?_
          exact ⟨rfl, rfl⟩
        refine kx_two (by decide) (Nat.le_of_ble_eq_true rfl) (by decide) (Nat.le_of_ble_eq_true rfl) ?_
        refine kx_st 0 (pc' := 0) (L' := [some (.ref 0), some (.int (nI k)), some (.int 3), some (.int c), none]) (st' := []) (h' := kv_wd g w) rfl ?_
        refine kx_st 3 (pc' := 5) (L' := [some (.ref 0), some (.int (nI k)), some (.int 3), some (.int c), none]) (st' := [.int (nI k), .ref 1]) (h' := kv_wd g w) rfl ?_
        refine kx_call (z := 17) (as := [.ref 1, .int (nI k)]) (rest := []) (v := some (.ref (14 + k))) (h1 := kv_wd g w) rfl (ev_knotAt (d := 898) (g := g) q k hk8 (by rw [d1]; exact nI_lt hkm (by omega))) ?_
        refine kx_st 0 (pc' := 8) (L' := [some (.ref 0), some (.int (nI k)), some (.int 3), some (.int c), none]) (st' := [.ref (14 + k)]) (h' := kv_wd g w) rfl ?_
        refine kx_st 2 (pc' := 12) (L' := [some (.ref 0), some (.int (nI k)), some (.int 3), some (.int c), some (.ref (14 + k))]) (st' := [.ref (14 + k)]) (h' := kv_wd g w) rfl ?_
        refine kx_st 1 (pc' := 15) (L' := [some (.ref 0), some (.int (nI k)), some (.int 3), some (.int c), some (.ref (14 + k))]) (st' := []) (h' := kv_wd g w) rfl ?_
        refine kx_st 2 (pc' := 17) (L' := [some (.ref 0), some (.int (nI k)), some (.int 3), some (.int c), some (.ref (14 + k))]) (st' := [.int 3, .int 3]) (h' := kv_wd g w) rfl ?_
        refine kx_call (z := 124) (as := [.int 3, .int 3]) (rest := []) (v := some (.int (kx_b (0 ≤ (3 : Int32) ∧ (3 : Int32) ≤ 3)))) (h1 := kv_wd g w) rfl (ev_within (d := 898) 3 3) ?_
        refine kx_st 0 (pc' := 20) (L' := [some (.ref 0), some (.int (nI k)), some (.int 3), some (.int c), some (.ref (14 + k))]) (st' := [.int (kx_b (0 ≤ (3 : Int32) ∧ (3 : Int32) ≤ 3))]) (h' := kv_wd g w) rfl ?_
        refine kx_bn (t := 29) rfl rfl (fun (h20 : (0 ≤ (3 : Int32) ∧ (3 : Int32) ≤ 3)) => ?_) (fun (h20 : ¬ (0 ≤ (3 : Int32) ∧ (3 : Int32) ≤ 3)) => ?_)
        · refine kx_st 6 (pc' := 38) (L' := [some (.ref 0), some (.int (nI k)), some (.int 3), some (.int c), some (.ref (14 + k))]) (st' := [.int c, .int 3, .ref (14 + k), .int (nI k), .ref 53]) (h' := kv_wd g w) rfl ?_
          refine kx_call (z := 74) (as := [.ref 53, .int (nI k), .ref (14 + k), .int 3, .int c]) (rest := []) (v := some (.int (F (nI k) (g (14 + k) 1) c))) (h1 := kv_wd (kx_nx (kv_up (kv_up (kv_up (kv_up g 53 1 0) 53 2 (nI k)) 53 3 (g (14 + k) 1)) 53 4 (g (14 + k) 0)) 0 l) w) rfl es ?_
          refine kx_st 0 (pc' := 41) (L' := [some (.ref 0), some (.int (nI k)), some (.int 3), some (.int c), some (.ref (14 + k))]) (st' := [.int (F (nI k) (g (14 + k) 1) c)]) (h' := kv_wd (kx_nx (kv_up (kv_up (kv_up (kv_up g 53 1 0) 53 2 (nI k)) 53 3 (g (14 + k) 1)) 53 4 (g (14 + k) 0)) 0 l) w) rfl ?_
          refine kx_ret (v := some (.int (F (nI k) (g (14 + k) 1) c))) rfl ?_
          obtain ⟨x1, x2, x3, x4⟩ := kx_nx_f l (kv_up (kv_up (kv_up (kv_up g 53 1 0) 53 2 (nI k)) 53 3 (g (14 + k) 1)) 53 4 (g (14 + k) 0)) 0 rfl
          have f : ∀ b, b ≠ 53 → b ≠ 54 → (kx_nx (kv_up (kv_up (kv_up (kv_up g 53 1 0) 53 2 (nI k)) 53 3 (g (14 + k) 1)) 53 4 (g (14 + k) 0)) 0 l) b = g b := fun b b1 b2 => (x4 b b1 b2).trans (by rw [kv_up_ne b1, kv_up_ne b1, kv_up_ne b1, kv_up_ne b1])
          refine ⟨_, _, _, rfl, rfl, ?_⟩
          refine kx_st 0 (pc' := 0) (L' := [some (.ref 65), some (.int (nI k)), some (.int 3), some (.int c)]) (st' := []) (h' := kv_wd (kx_nx (kv_up (kv_up (kv_up (kv_up g 53 1 0) 53 2 (nI k)) 53 3 (g (14 + k) 1)) 53 4 (g (14 + k) 0)) 0 l) w) rfl ?_
          refine kx_st 2 (pc' := 2) (L' := [some (.ref 65), some (.int (nI k)), some (.int 3), some (.int c)]) (st' := [.int (nI k), .ref 65]) (h' := kv_wd (kx_nx (kv_up (kv_up (kv_up (kv_up g 53 1 0) 53 2 (nI k)) 53 3 (g (14 + k) 1)) 53 4 (g (14 + k) 0)) 0 l) w) rfl ?_
          refine kx_call (z := 139) (as := [.ref 65, .int (nI k)]) (rest := []) (v := some (.int (kx_b (0 ≤ nI k ∧ nI k < nI m)))) (h1 := kv_wd (kx_nx (kv_up (kv_up (kv_up (kv_up g 53 1 0) 53 2 (nI k)) 53 3 (g (14 + k) 1)) 53 4 (g (14 + k) 0)) 0 l) w) rfl (ev_mKnotS (d := 897) (g := kx_nx (kv_up (kv_up (kv_up (kv_up g 53 1 0) 53 2 (nI k)) 53 3 (g (14 + k) 1)) 53 4 (g (14 + k) 0)) 0 l) (s := m) (by rw [f 66 (by omega) (by omega)]; exact d2) a4 (nI k)) ?_
          refine kx_st 0 (pc' := 5) (L' := [some (.ref 65), some (.int (nI k)), some (.int 3), some (.int c)]) (st' := [.int (kx_b (0 ≤ nI k ∧ nI k < nI m))]) (h' := kv_wd (kx_nx (kv_up (kv_up (kv_up (kv_up g 53 1 0) 53 2 (nI k)) 53 3 (g (14 + k) 1)) 53 4 (g (14 + k) 0)) 0 l) w) rfl ?_
          refine kx_be (t := 17) rfl rfl (fun (m5 : ¬ (0 ≤ nI k ∧ nI k < nI m)) => ?_) (fun (m5 : (0 ≤ nI k ∧ nI k < nI m)) => ?_)
          · exact absurd hv m5
          · refine kx_st 0 (pc' := 8) (L' := [some (.ref 65), some (.int (nI k)), some (.int 3), some (.int c)]) (st' := []) (h' := kv_wd (kx_nx (kv_up (kv_up (kv_up (kv_up g 53 1 0) 53 2 (nI k)) 53 3 (g (14 + k) 1)) 53 4 (g (14 + k) 0)) 0 l) w) rfl ?_
            refine kx_st 3 (pc' := 11) (L' := [some (.ref 65), some (.int (nI k)), some (.int 3), some (.int c)]) (st' := [.int 3, .int 0, .int 3]) (h' := kv_wd (kx_nx (kv_up (kv_up (kv_up (kv_up g 53 1 0) 53 2 (nI k)) 53 3 (g (14 + k) 1)) 53 4 (g (14 + k) 0)) 0 l) w) rfl ?_
            refine kx_call (z := 130) (as := [.int 3, .int 0, .int 3]) (rest := []) (v := some (.int (kx_b (0 ≤ (3 : Int32) ∧ (3 : Int32) ≤ 3)))) (h1 := kv_wd (kx_nx (kv_up (kv_up (kv_up (kv_up g 53 1 0) 53 2 (nI k)) 53 3 (g (14 + k) 1)) 53 4 (g (14 + k) 0)) 0 l) w) rfl (ev_in (d := 898) 3 0 3) ?_
            refine kx_st 0 (pc' := 14) (L' := [some (.ref 65), some (.int (nI k)), some (.int 3), some (.int c)]) (st' := [.int (kx_b (0 ≤ (3 : Int32) ∧ (3 : Int32) ≤ 3))]) (h' := kv_wd (kx_nx (kv_up (kv_up (kv_up (kv_up g 53 1 0) 53 2 (nI k)) 53 3 (g (14 + k) 1)) 53 4 (g (14 + k) 0)) 0 l) w) rfl ?_
            refine kx_bn (t := 24) rfl rfl (fun (m14 : (0 ≤ (3 : Int32) ∧ (3 : Int32) ≤ 3)) => ?_) (fun (m14 : ¬ (0 ≤ (3 : Int32) ∧ (3 : Int32) ≤ 3)) => ?_)
            · refine kx_st 2 (pc' := 26) (L' := [some (.ref 65), some (.int (nI k)), some (.int 3), some (.int c)]) (st' := [.int 0, .ref 65]) (h' := kv_wd (kx_nx (kv_up (kv_up (kv_up (kv_up g 53 1 0) 53 2 (nI k)) 53 3 (g (14 + k) 1)) 53 4 (g (14 + k) 0)) 0 l) w) rfl ?_
              refine kx_pf (i := 217) (k := 20) (x := 0) rfl rfl (by decide) rfl (Nat.le_of_ble_eq_true rfl) rfl rfl rfl ?_
              refine kx_st 4 (pc' := 33) (L' := [some (.ref 65), some (.int (nI k)), some (.int 3), some (.int c)]) (st' := [.int 0, .int (nI k), .ref 65, .ref 65]) (h' := kv_wd (kv_up (kx_nx (kv_up (kv_up (kv_up (kv_up g 53 1 0) 53 2 (nI k)) 53 3 (g (14 + k) 1)) 53 4 (g (14 + k) 0)) 0 l) 65 20 0) w) rfl ?_
              have ei0 := ev_its (E := E) (d := 898) (g := kv_up (kx_nx (kv_up (kv_up (kv_up (kv_up g 53 1 0) 53 2 (nI k)) 53 3 (g (14 + k) 1)) 53 4 (g (14 + k) 0)) 0 l) 65 20 0) (w := w) k 0 (by omega)
              rw [kv_up_ne (by omega), f 66 (by omega) (by omega), r0] at ei0
              refine kx_call (z := 136) (as := [.ref 65, .int (nI k), .int 0]) (rest := [.ref 65]) (v := some (.int (nI kd))) (h1 := kv_wd (kv_up (kx_nx (kv_up (kv_up (kv_up (kv_up g 53 1 0) 53 2 (nI k)) 53 3 (g (14 + k) 1)) 53 4 (g (14 + k) 0)) 0 l) 65 20 0) w) rfl ei0 ?_
              refine kx_st 0 (pc' := 36) (L' := [some (.ref 65), some (.int (nI k)), some (.int 3), some (.int c)]) (st' := [.int (nI kd), .ref 65]) (h' := kv_wd (kv_up (kx_nx (kv_up (kv_up (kv_up (kv_up g 53 1 0) 53 2 (nI k)) 53 3 (g (14 + k) 1)) 53 4 (g (14 + k) 0)) 0 l) 65 20 0) w) rfl ?_
              refine kx_pf (i := 235) (k := 21) (x := (nI kd)) rfl rfl (by decide) rfl (Nat.le_of_ble_eq_true rfl) rfl rfl rfl ?_
              refine kx_st 2 (pc' := 41) (L' := [some (.ref 65), some (.int (nI k)), some (.int 3), some (.int c)]) (st' := [.int (nI k), .ref 65]) (h' := kv_wd (kv_up (kv_up (kx_nx (kv_up (kv_up (kv_up (kv_up g 53 1 0) 53 2 (nI k)) 53 3 (g (14 + k) 1)) 53 4 (g (14 + k) 0)) 0 l) 65 20 0) 65 21 (nI kd)) w) rfl ?_
              refine kx_pf (i := 223) (k := 22) (x := (nI k)) rfl rfl (by decide) rfl (Nat.le_of_ble_eq_true rfl) rfl rfl rfl ?_
              refine kx_st 4 (pc' := 48) (L' := [some (.ref 65), some (.int (nI k)), some (.int 3), some (.int c)]) (st' := [.int 1, .int (nI k), .ref 65, .ref 65]) (h' := kv_wd (kv_up (kv_up (kv_up (kx_nx (kv_up (kv_up (kv_up (kv_up g 53 1 0) 53 2 (nI k)) 53 3 (g (14 + k) 1)) 53 4 (g (14 + k) 0)) 0 l) 65 20 0) 65 21 (nI kd)) 65 22 (nI k)) w) rfl ?_
              have ei1 := ev_its (E := E) (d := 898) (g := kv_up (kv_up (kv_up (kx_nx (kv_up (kv_up (kv_up (kv_up g 53 1 0) 53 2 (nI k)) 53 3 (g (14 + k) 1)) 53 4 (g (14 + k) 0)) 0 l) 65 20 0) 65 21 (nI kd)) 65 22 (nI k)) (w := w) k 1 (by omega)
              rw [kv_up_ne (by omega), kv_up_ne (by omega), kv_up_ne (by omega), f 66 (by omega) (by omega), r1] at ei1
              refine kx_call (z := 136) (as := [.ref 65, .int (nI k), .int 1]) (rest := [.ref 65]) (v := some (.int (g (14 + k) 1))) (h1 := kv_wd (kv_up (kv_up (kv_up (kx_nx (kv_up (kv_up (kv_up (kv_up g 53 1 0) 53 2 (nI k)) 53 3 (g (14 + k) 1)) 53 4 (g (14 + k) 0)) 0 l) 65 20 0) 65 21 (nI kd)) 65 22 (nI k)) w) rfl ei1 ?_
              refine kx_st 0 (pc' := 51) (L' := [some (.ref 65), some (.int (nI k)), some (.int 3), some (.int c)]) (st' := [.int (g (14 + k) 1), .ref 65]) (h' := kv_wd (kv_up (kv_up (kv_up (kx_nx (kv_up (kv_up (kv_up (kv_up g 53 1 0) 53 2 (nI k)) 53 3 (g (14 + k) 1)) 53 4 (g (14 + k) 0)) 0 l) 65 20 0) 65 21 (nI kd)) 65 22 (nI k)) w) rfl ?_
              refine kx_pf (i := 229) (k := 23) (x := (g (14 + k) 1)) rfl rfl (by decide) rfl (Nat.le_of_ble_eq_true rfl) rfl rfl rfl ?_
              refine kx_st 6 (pc' := 116) (L' := [some (.ref 65), some (.int (nI k)), some (.int 3), some (.int c)]) (st' := [.int c, .int ((kv_up (kv_up (kv_up (kv_up (kx_nx (kv_up (kv_up (kv_up (kv_up g 53 1 0) 53 2 (nI k)) 53 3 (g (14 + k) 1)) 53 4 (g (14 + k) 0)) 0 l) 65 20 0) 65 21 (nI kd)) 65 22 (nI k)) 65 23 (g (14 + k) 1)) 65 21), .ref 65]) (h' := kv_wd (kv_up (kv_up (kv_up (kv_up (kx_nx (kv_up (kv_up (kv_up (kv_up g 53 1 0) 53 2 (nI k)) 53 3 (g (14 + k) 1)) 53 4 (g (14 + k) 0)) 0 l) 65 20 0) 65 21 (nI kd)) 65 22 (nI k)) 65 23 (g (14 + k) 1)) w) rfl ?_
              refine kx_call (z := 207) (as := [.ref 65, .int ((kv_up (kv_up (kv_up (kv_up (kx_nx (kv_up (kv_up (kv_up (kv_up g 53 1 0) 53 2 (nI k)) 53 3 (g (14 + k) 1)) 53 4 (g (14 + k) 0)) 0 l) 65 20 0) 65 21 (nI kd)) 65 22 (nI k)) 65 23 (g (14 + k) 1)) 65 21), .int c]) (rest := []) (v := some (.int (F (nI k) (g (14 + k) 1) c))) (h1 := kv_wd (kx_mx (kv_up (kv_up (kv_up (kv_up (kx_nx (kv_up (kv_up (kv_up (kv_up g 53 1 0) 53 2 (nI k)) 53 3 (g (14 + k) 1)) 53 4 (g (14 + k) 0)) 0 l) 65 20 0) 65 21 (nI kd)) 65 22 (nI k)) 65 23 (g (14 + k) 1)) 0 l) w) rfl (hm E 859 (kv_up (kv_up (kv_up (kv_up (kx_nx (kv_up (kv_up (kv_up (kv_up g 53 1 0) 53 2 (nI k)) 53 3 (g (14 + k) 1)) 53 4 (g (14 + k) 0)) 0 l) 65 20 0) 65 21 (nI kd)) 65 22 (nI k)) 65 23 (g (14 + k) 1)) w (nI k) (g (14 + k) 1) c rfl rfl rfl rfl) ?_
              refine kx_st 0 (pc' := 119) (L' := [some (.ref 65), some (.int (nI k)), some (.int 3), some (.int c)]) (st' := [.int (F (nI k) (g (14 + k) 1) c)]) (h' := kv_wd (kx_mx (kv_up (kv_up (kv_up (kv_up (kx_nx (kv_up (kv_up (kv_up (kv_up g 53 1 0) 53 2 (nI k)) 53 3 (g (14 + k) 1)) 53 4 (g (14 + k) 0)) 0 l) 65 20 0) 65 21 (nI kd)) 65 22 (nI k)) 65 23 (g (14 + k) 1)) 0 l) w) rfl ?_
              refine kx_ret (v := some (.int (F (nI k) (g (14 + k) 1) c))) rfl ?_
              obtain ⟨y1, y2, y3, y4⟩ := kx_mx_f l (kv_up (kv_up (kv_up (kv_up (kx_nx (kv_up (kv_up (kv_up (kv_up g 53 1 0) 53 2 (nI k)) 53 3 (g (14 + k) 1)) 53 4 (g (14 + k) 0)) 0 l) 65 20 0) 65 21 (nI kd)) 65 22 (nI k)) 65 23 (g (14 + k) 1)) 0 rfl
              refine ⟨rfl, _, _, rfl, kx_Rl_tr hR (fun b b53 b54 b65 b75 => ?_) (fun k hk => ?_) ⟨l.length, by omega, ?_, ?_, fun j hj => ?_⟩⟩
              · rw [y4 b b65 b75, kv_up_ne b65, kv_up_ne b65, kv_up_ne b65, kv_up_ne b65]; exact f b b53 b54
              · rw [y2 k (by omega), kv_up_at, kx_upn (by omega), kv_up_at, kx_upn (by omega), kv_up_at, kx_upn (by omega), kv_up_at, kx_upn (by omega), f 65 (by omega) (by omega)]
              · rw [y4 53 (by omega) (by omega), kv_up_ne (by omega), kv_up_ne (by omega), kv_up_ne (by omega), kv_up_ne (by omega), x1, Nat.zero_add]
              · rw [y1, Nat.zero_add]
              · rw [y3, y4 54 (by omega) (by omega), kv_up_ne (by omega), kv_up_ne (by omega), kv_up_ne (by omega), kv_up_ne (by omega), x3, if_pos (by omega), if_pos (by omega)]
            · exact absurd hc m14
        · exact absurd hc h20
    · refine kx_two (by decide) (Nat.le_of_ble_eq_true rfl) (by decide) (Nat.le_of_ble_eq_true rfl) ?_
      refine kx_st 0 (pc' := 0) (L' := [some (.ref 0), some (.int (nI k)), some (.int b), some (.int c), none]) (st' := []) (h' := kv_wd g w) rfl ?_
      refine kx_st 3 (pc' := 5) (L' := [some (.ref 0), some (.int (nI k)), some (.int b), some (.int c), none]) (st' := [.int (nI k), .ref 1]) (h' := kv_wd g w) rfl ?_
      refine kx_call (z := 17) (as := [.ref 1, .int (nI k)]) (rest := []) (v := some (.ref (14 + k))) (h1 := kv_wd g w) rfl (ev_knotAt (d := 898) (g := g) q k hk8 (by rw [d1]; exact nI_lt hkm (by omega))) ?_
      refine kx_st 0 (pc' := 8) (L' := [some (.ref 0), some (.int (nI k)), some (.int b), some (.int c), none]) (st' := [.ref (14 + k)]) (h' := kv_wd g w) rfl ?_
      refine kx_st 2 (pc' := 12) (L' := [some (.ref 0), some (.int (nI k)), some (.int b), some (.int c), some (.ref (14 + k))]) (st' := [.ref (14 + k)]) (h' := kv_wd g w) rfl ?_
      refine kx_st 1 (pc' := 15) (L' := [some (.ref 0), some (.int (nI k)), some (.int b), some (.int c), some (.ref (14 + k))]) (st' := []) (h' := kv_wd g w) rfl ?_
      refine kx_st 2 (pc' := 17) (L' := [some (.ref 0), some (.int (nI k)), some (.int b), some (.int c), some (.ref (14 + k))]) (st' := [.int 3, .int b]) (h' := kv_wd g w) rfl ?_
      refine kx_call (z := 124) (as := [.int b, .int 3]) (rest := []) (v := some (.int (kx_b (0 ≤ b ∧ b ≤ 3)))) (h1 := kv_wd g w) rfl (ev_within (d := 898) b 3) ?_
      refine kx_st 0 (pc' := 20) (L' := [some (.ref 0), some (.int (nI k)), some (.int b), some (.int c), some (.ref (14 + k))]) (st' := [.int (kx_b (0 ≤ b ∧ b ≤ 3))]) (h' := kv_wd g w) rfl ?_
      refine kx_bn (t := 29) rfl rfl (fun (h20 : (0 ≤ b ∧ b ≤ 3)) => ?_) (fun (h20 : ¬ (0 ≤ b ∧ b ≤ 3)) => ?_)
      · exact absurd h20 hc
      · refine kx_st 0 (pc' := 23) (L' := [some (.ref 0), some (.int (nI k)), some (.int b), some (.int c), some (.ref (14 + k))]) (st' := []) (h' := kv_wd g w) rfl ?_
        refine kx_st 2 (pc' := 25) (L' := [some (.ref 0), some (.int (nI k)), some (.int b), some (.int c), some (.ref (14 + k))]) (st' := [.int 1, .ref 0]) (h' := kv_wd g w) rfl ?_
        refine kx_call (z := 123) (as := [.ref 0, .int 1]) (rest := []) (v := some (.int (-1000000000 - nI 1))) (h1 := kv_wd (kv_up g 64 1 (g 64 1 + 1)) w) rfl (ev_error (d := 898) 1 (by decide) (by decide)) ?_
        refine kx_st 0 (pc' := 28) (L' := [some (.ref 0), some (.int (nI k)), some (.int b), some (.int c), some (.ref (14 + k))]) (st' := [.int (-1000000000 - nI 1)]) (h' := kv_wd (kv_up g 64 1 (g 64 1 + 1)) w) rfl ?_
        refine kx_ret (v := some (.int (-1000000000 - nI 1))) rfl ?_
        refine ⟨_, _, _, rfl, rfl, ?_⟩
        refine kx_st 0 (pc' := 0) (L' := [some (.ref 65), some (.int (nI k)), some (.int b), some (.int c)]) (st' := []) (h' := kv_wd (kv_up g 64 1 (g 64 1 + 1)) w) rfl ?_
        refine kx_st 2 (pc' := 2) (L' := [some (.ref 65), some (.int (nI k)), some (.int b), some (.int c)]) (st' := [.int (nI k), .ref 65]) (h' := kv_wd (kv_up g 64 1 (g 64 1 + 1)) w) rfl ?_
        refine kx_call (z := 139) (as := [.ref 65, .int (nI k)]) (rest := []) (v := some (.int (kx_b (0 ≤ nI k ∧ nI k < nI m)))) (h1 := kv_wd (kv_up g 64 1 (g 64 1 + 1)) w) rfl (ev_mKnotS (d := 897) (g := kv_up g 64 1 (g 64 1 + 1)) (s := m) (by first | exact d2 | (rw [kv_up_ne (by omega)]; exact d2)) a4 (nI k)) ?_
        refine kx_st 0 (pc' := 5) (L' := [some (.ref 65), some (.int (nI k)), some (.int b), some (.int c)]) (st' := [.int (kx_b (0 ≤ nI k ∧ nI k < nI m))]) (h' := kv_wd (kv_up g 64 1 (g 64 1 + 1)) w) rfl ?_
        refine kx_be (t := 17) rfl rfl (fun (m5 : ¬ (0 ≤ nI k ∧ nI k < nI m)) => ?_) (fun (m5 : (0 ≤ nI k ∧ nI k < nI m)) => ?_)
        · exact absurd hv m5
        · refine kx_st 0 (pc' := 8) (L' := [some (.ref 65), some (.int (nI k)), some (.int b), some (.int c)]) (st' := []) (h' := kv_wd (kv_up g 64 1 (g 64 1 + 1)) w) rfl ?_
          refine kx_st 3 (pc' := 11) (L' := [some (.ref 65), some (.int (nI k)), some (.int b), some (.int c)]) (st' := [.int 3, .int 0, .int b]) (h' := kv_wd (kv_up g 64 1 (g 64 1 + 1)) w) rfl ?_
          refine kx_call (z := 130) (as := [.int b, .int 0, .int 3]) (rest := []) (v := some (.int (kx_b (0 ≤ b ∧ b ≤ 3)))) (h1 := kv_wd (kv_up g 64 1 (g 64 1 + 1)) w) rfl (ev_in (d := 898) b 0 3) ?_
          refine kx_st 0 (pc' := 14) (L' := [some (.ref 65), some (.int (nI k)), some (.int b), some (.int c)]) (st' := [.int (kx_b (0 ≤ b ∧ b ≤ 3))]) (h' := kv_wd (kv_up g 64 1 (g 64 1 + 1)) w) rfl ?_
          refine kx_bn (t := 24) rfl rfl (fun (m14 : (0 ≤ b ∧ b ≤ 3)) => ?_) (fun (m14 : ¬ (0 ≤ b ∧ b ≤ 3)) => ?_)
          · exact absurd m14 hc
          · refine kx_st 0 (pc' := 17) (L' := [some (.ref 65), some (.int (nI k)), some (.int b), some (.int c)]) (st' := []) (h' := kv_wd (kv_up g 64 1 (g 64 1 + 1)) w) rfl ?_
            refine kx_st 2 (pc' := 20) (L' := [some (.ref 65), some (.int (nI k)), some (.int b), some (.int c)]) (st' := [.int (-1000000001), .ref 65]) (h' := kv_wd (kv_up g 64 1 (g 64 1 + 1)) w) rfl ?_
            refine kx_call (z := 131) (as := [.ref 65, .int (-1000000001)]) (rest := []) (v := some (.int (-1000000001))) (h1 := kv_wd (kv_up (kv_up g 64 1 (g 64 1 + 1)) 70 1 ((kv_up g 64 1 (g 64 1 + 1)) 70 1 + 1)) w) rfl (ev_errs (d := 898) (-1000000001) 1 (by decide) (by decide)) ?_
            refine kx_st 0 (pc' := 23) (L' := [some (.ref 65), some (.int (nI k)), some (.int b), some (.int c)]) (st' := [.int (-1000000001)]) (h' := kv_wd (kv_up (kv_up g 64 1 (g 64 1 + 1)) 70 1 ((kv_up g 64 1 (g 64 1 + 1)) 70 1 + 1)) w) rfl ?_
            refine kx_ret (v := some (.int (-1000000001))) rfl ?_
            exact ⟨rfl, _, _, rfl, kx_Rl_e hR⟩
  · refine kx_two (by decide) (Nat.le_of_ble_eq_true rfl) (by decide) (Nat.le_of_ble_eq_true rfl) ?_
    refine kx_st 0 (pc' := 0) (L' := [some (.ref 0), some (.int a), some (.int b), some (.int c), none]) (st' := []) (h' := kv_wd g w) rfl ?_
    refine kx_st 3 (pc' := 5) (L' := [some (.ref 0), some (.int a), some (.int b), some (.int c), none]) (st' := [.int a, .ref 1]) (h' := kv_wd g w) rfl ?_
    refine kx_call (z := 17) (as := [.ref 1, .int a]) (rest := []) (v := some (.null)) (h1 := kv_wd g w) rfl (ev_knotAt_n (d := 898) (g := g) a (by rw [d1]; exact hv)) ?_
    refine kx_st 0 (pc' := 8) (L' := [some (.ref 0), some (.int a), some (.int b), some (.int c), none]) (st' := [.null]) (h' := kv_wd g w) rfl ?_
    refine kx_st 2 (pc' := 12) (L' := [some (.ref 0), some (.int a), some (.int b), some (.int c), some (.null)]) (st' := [.null]) (h' := kv_wd g w) rfl ?_
    refine kx_st 1 (pc' := 23) (L' := [some (.ref 0), some (.int a), some (.int b), some (.int c), some (.null)]) (st' := []) (h' := kv_wd g w) rfl ?_
    refine kx_st 2 (pc' := 25) (L' := [some (.ref 0), some (.int a), some (.int b), some (.int c), some (.null)]) (st' := [.int 1, .ref 0]) (h' := kv_wd g w) rfl ?_
    refine kx_call (z := 123) (as := [.ref 0, .int 1]) (rest := []) (v := some (.int (-1000000000 - nI 1))) (h1 := kv_wd (kv_up g 64 1 (g 64 1 + 1)) w) rfl (ev_error (d := 898) 1 (by decide) (by decide)) ?_
    refine kx_st 0 (pc' := 28) (L' := [some (.ref 0), some (.int a), some (.int b), some (.int c), some (.null)]) (st' := [.int (-1000000000 - nI 1)]) (h' := kv_wd (kv_up g 64 1 (g 64 1 + 1)) w) rfl ?_
    refine kx_ret (v := some (.int (-1000000000 - nI 1))) rfl ?_
    refine ⟨_, _, _, rfl, rfl, ?_⟩
    refine kx_st 0 (pc' := 0) (L' := [some (.ref 65), some (.int a), some (.int b), some (.int c)]) (st' := []) (h' := kv_wd (kv_up g 64 1 (g 64 1 + 1)) w) rfl ?_
    refine kx_st 2 (pc' := 2) (L' := [some (.ref 65), some (.int a), some (.int b), some (.int c)]) (st' := [.int a, .ref 65]) (h' := kv_wd (kv_up g 64 1 (g 64 1 + 1)) w) rfl ?_
    refine kx_call (z := 139) (as := [.ref 65, .int a]) (rest := []) (v := some (.int (kx_b (0 ≤ a ∧ a < nI m)))) (h1 := kv_wd (kv_up g 64 1 (g 64 1 + 1)) w) rfl (ev_mKnotS (d := 897) (g := kv_up g 64 1 (g 64 1 + 1)) (s := m) (by first | exact d2 | (rw [kv_up_ne (by omega)]; exact d2)) a4 a) ?_
    refine kx_st 0 (pc' := 5) (L' := [some (.ref 65), some (.int a), some (.int b), some (.int c)]) (st' := [.int (kx_b (0 ≤ a ∧ a < nI m))]) (h' := kv_wd (kv_up g 64 1 (g 64 1 + 1)) w) rfl ?_
    refine kx_be (t := 17) rfl rfl (fun (m5 : ¬ (0 ≤ a ∧ a < nI m)) => ?_) (fun (m5 : (0 ≤ a ∧ a < nI m)) => ?_)
    · refine kx_st 2 (pc' := 20) (L' := [some (.ref 65), some (.int a), some (.int b), some (.int c)]) (st' := [.int (-1000000001), .ref 65]) (h' := kv_wd (kv_up g 64 1 (g 64 1 + 1)) w) rfl ?_
      refine kx_call (z := 131) (as := [.ref 65, .int (-1000000001)]) (rest := []) (v := some (.int (-1000000001))) (h1 := kv_wd (kv_up (kv_up g 64 1 (g 64 1 + 1)) 70 1 ((kv_up g 64 1 (g 64 1 + 1)) 70 1 + 1)) w) rfl (ev_errs (d := 898) (-1000000001) 1 (by decide) (by decide)) ?_
      refine kx_st 0 (pc' := 23) (L' := [some (.ref 65), some (.int a), some (.int b), some (.int c)]) (st' := [.int (-1000000001)]) (h' := kv_wd (kv_up (kv_up g 64 1 (g 64 1 + 1)) 70 1 ((kv_up g 64 1 (g 64 1 + 1)) 70 1 + 1)) w) rfl ?_
      refine kx_ret (v := some (.int (-1000000001))) rfl ?_
      exact ⟨rfl, _, _, rfl, kx_Rl_e hR⟩
    · exact absurd m5 hv
