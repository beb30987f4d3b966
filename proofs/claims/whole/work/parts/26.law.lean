/-! THE LAW'S LOOP -/
theorem kx_rn_C {E : kv_V} {C C' : Nat → List Value → kv_H → Option Value → kv_H → Prop} (hC : ∀ z as h v h1, C z as h v h1 → C' z as h v h1) {y : Nat} : ∀ (n pc : Nat) (L : kv_L) (st : List Value) (h : kv_H) (r : Option Value) (hf : kv_H), kv_rn E C y n pc L st h r hf → kv_rn E C' y n pc L st h r hf := kx_rn_E (fun _ _ h => h) hC (fun _ _ _ _ _ _ _ a _ => a)
theorem kx_ev_d1 {E : kv_V} : ∀ (d y : Nat) (as : List Value) (h : kv_H) (r : Option Value) (hf : kv_H), kv_ev E d y as h r hf → kv_ev E (d + 1) y as h r hf := by
  intro d
  induction d with
  | zero => intro y as h r hf hr; exact absurd hr (by simp [kv_ev])
  | succ d ih =>
    intro y as h r hf hr
    obtain ⟨h1, h2, n, hr⟩ := hr
    exact ⟨h1, h2, n, kx_rn_C ih n _ _ _ _ _ _ hr⟩
theorem kx_ev_le {E : kv_V} {d d' y : Nat} {as : List Value} {h : kv_H} {r : Option Value} {hf : kv_H} (hd : d ≤ d') (hr : kv_ev E d y as h r hf) : kv_ev E d' y as h r hf := by
  induction hd with
  | refl => exact hr
  | step _ ih => exact kx_ev_d1 _ _ _ _ _ _ ih
/-- a call on both: one answer, the relation goes on -/
def kx_ok2 (E : kv_V) (Rl : kv_S → kv_W → Nat → Prop) (yx ym : Nat) (as : List Value) : Prop := ∀ (g : kv_S) (w : kv_W) (i : Nat), Rl g w i → i < 512 → ∃ (r : Int32) (g1 : kv_S) (w1 : kv_W) (g2 : kv_S) (w2 : kv_W), kv_ev E 900 yx (.ref 0 :: as) (kv_wd g w) (some (.int r)) (kv_wd g1 w1) ∧ kv_ev E 900 ym (.ref 65 :: as) (kv_wd g1 w1) (some (.int r)) (kv_wd g2 w2) ∧ Rl g2 w2 (i + 1)
theorem kx_lim {n k : Nat} (hn : n ≤ 3072) (hk : k ≤ 512) : nI n - 6 < nI (6 * k) ↔ n < 6 * k + 6 := by
  have h1 : (nI n - 6).toInt = (n : Int) - 6 := by
    rw [Int32.toInt_sub, nI_toInt (by omega), show (6 : Int32).toInt = 6 from rfl]
    simp only [Int.bmod]
    omega
  rw [Int32.lt_iff_toInt_lt, h1, nI_toInt (by omega)]
  omega
theorem kx_ts {E : kv_V} {d y pc : Nat} {L : kv_L} {st : List Value} {h : kv_H} {P : Option Value → kv_H → Prop} {df lo hi : Int} {offs : Array Int} {len td : Nat} {x : Int32} (hat : kv_at y pc = some (.tableswitch df lo hi offs, len)) (hd : kv_j pc df = some td) (k0 : x.toInt < lo ∨ hi < x.toInt → kx_V E d y td L st h P) (k1 : ∀ (j : Nat), j < (hi - lo + 1).toNat → x.toInt = lo + j → ∃ off t, offs[j]? = some off ∧ kv_j pc off = some t ∧ kx_V E d y t L st h P) : kx_V E d y pc L (.int x :: st) h P := by
  by_cases hc : x.toInt < lo ∨ hi < x.toInt
  · refine kx_s1 (pc' := td) (L' := L) (st' := st) (h' := h) ?_ (k0 hc)
    simp only [kx_1, hat, kv_cl1, kv_re, kv_op, if_pos hc, hd, kv_sw]
  · obtain ⟨off, t, e1, e2, kk⟩ := k1 (x.toInt - lo).toNat (by omega) (by omega)
    refine kx_s1 (pc' := t) (L' := L) (st' := st) (h' := h) ?_ kk
    simp only [kx_1, hat, kv_cl1, kv_re, kv_op, if_neg hc, e1, Option.bind_some, e2, kv_sw]
set_option maxRecDepth 100000 in
theorem lw_c0 {Ln : Nat} {xs : Nat → Int32} {Rl : kv_S → kv_W → Nat → Prop} {k : Nat} {g : kv_S} {w : kv_W} {P : Option Value → kv_H → Prop} (hL : Ln ≤ 3072) (hk : 6 * k + 6 ≤ Ln) (hR : Rl g w k) (hp : kx_ok2 (kv_E0 Ln xs) Rl 81 143 [.int (xs (6 * k + 1))]) (kk : ∀ g2 w2, Rl g2 w2 (k + 1) → kx_V (kv_E0 Ln xs) 900 223 1492 [some (.ref 1000), some (.ref 0), some (.ref 65), some (.int (nI (6 * k)))] [] (kv_wd g2 w2) P) : kx_V (kv_E0 Ln xs) 900 223 216 [some (.ref 1000), some (.ref 0), some (.ref 65), some (.int (nI (6 * k)))] [] (kv_wd g w) P := by
  obtain ⟨r, g1, w1, g2, w2, hx, hm, hR2⟩ := hp g w k hR (by omega)
  refine kx_st 5 (pc' := 221) (L' := [some (.ref 1000), some (.ref 0), some (.ref 65), some (.int (nI (6 * k)))]) (st' := [.int ((nI (6 * k)) + 1), .ref 1000, .ref 0]) (h' := kv_wd g w) rfl ?_
  refine kx_iE (k := (6 * k + 1)) (f := xs) rfl rfl (by decide) (kx_nadd (6 * k) 1) (by omega) (by omega) ?_
  refine kx_call (z := 81) (as := [.ref 0, .int (xs (6 * k + 1))]) (rest := []) (v := some (.int r)) (h1 := kv_wd g1 w1) rfl hx ?_
  refine kx_st 0 (pc' := 225) (L' := [some (.ref 1000), some (.ref 0), some (.ref 65), some (.int (nI (6 * k)))]) (st' := [.int r]) (h' := kv_wd g1 w1) rfl ?_
  refine kx_st 5 (pc' := 230) (L' := [some (.ref 1000), some (.ref 0), some (.ref 65), some (.int (nI (6 * k)))]) (st' := [.int ((nI (6 * k)) + 1), .ref 1000, .ref 65, .int r]) (h' := kv_wd g1 w1) rfl ?_
  refine kx_iE (k := (6 * k + 1)) (f := xs) rfl rfl (by decide) (kx_nadd (6 * k) 1) (by omega) (by omega) ?_
  refine kx_call (z := 143) (as := [.ref 65, .int (xs (6 * k + 1))]) (rest := [.int r]) (v := some (.int r)) (h1 := kv_wd g2 w2) rfl hm ?_
  refine kx_st 0 (pc' := 234) (L' := [some (.ref 1000), some (.ref 0), some (.ref 65), some (.int (nI (6 * k)))]) (st' := [.int r, .int r]) (h' := kv_wd g2 w2) rfl ?_
  refine kx_bi (t := 1492) rfl rfl (fun (h234 : r = r) => ?_) (fun (h234 : ¬ (r = r)) => ?_)
  · exact kk g2 w2 hR2
  · exact absurd rfl h234
set_option maxRecDepth 100000 in
theorem lw_c1 {Ln : Nat} {xs : Nat → Int32} {Rl : kv_S → kv_W → Nat → Prop} {k : Nat} {g : kv_S} {w : kv_W} {P : Option Value → kv_H → Prop} (hL : Ln ≤ 3072) (hk : 6 * k + 6 ≤ Ln) (hR : Rl g w k) (hp : kx_ok2 (kv_E0 Ln xs) Rl 82 144 [.int (xs (6 * k + 1)), .int (xs (6 * k + 2)), .int (xs (6 * k + 3))]) (kk : ∀ g2 w2, Rl g2 w2 (k + 1) → kx_V (kv_E0 Ln xs) 900 223 1492 [some (.ref 1000), some (.ref 0), some (.ref 65), some (.int (nI (6 * k)))] [] (kv_wd g2 w2) P) : kx_V (kv_E0 Ln xs) 900 223 239 [some (.ref 1000), some (.ref 0), some (.ref 65), some (.int (nI (6 * k)))] [] (kv_wd g w) P := by
  obtain ⟨r, g1, w1, g2, w2, hx, hm, hR2⟩ := hp g w k hR (by omega)
  refine kx_st 5 (pc' := 244) (L' := [some (.ref 1000), some (.ref 0), some (.ref 65), some (.int (nI (6 * k)))]) (st' := [.int ((nI (6 * k)) + 1), .ref 1000, .ref 0]) (h' := kv_wd g w) rfl ?_
  refine kx_iE (k := (6 * k + 1)) (f := xs) rfl rfl (by decide) (kx_nadd (6 * k) 1) (by omega) (by omega) ?_
  refine kx_st 4 (pc' := 249) (L' := [some (.ref 1000), some (.ref 0), some (.ref 65), some (.int (nI (6 * k)))]) (st' := [.int ((nI (6 * k)) + 2), .ref 1000, .int (xs (6 * k + 1)), .ref 0]) (h' := kv_wd g w) rfl ?_
  refine kx_iE (k := (6 * k + 2)) (f := xs) rfl rfl (by decide) (kx_nadd (6 * k) 2) (by omega) (by omega) ?_
  refine kx_st 4 (pc' := 254) (L' := [some (.ref 1000), some (.ref 0), some (.ref 65), some (.int (nI (6 * k)))]) (st' := [.int ((nI (6 * k)) + 3), .ref 1000, .int (xs (6 * k + 2)), .int (xs (6 * k + 1)), .ref 0]) (h' := kv_wd g w) rfl ?_
  refine kx_iE (k := (6 * k + 3)) (f := xs) rfl rfl (by decide) (kx_nadd (6 * k) 3) (by omega) (by omega) ?_
  refine kx_call (z := 82) (as := [.ref 0, .int (xs (6 * k + 1)), .int (xs (6 * k + 2)), .int (xs (6 * k + 3))]) (rest := []) (v := some (.int r)) (h1 := kv_wd g1 w1) rfl hx ?_
  refine kx_st 0 (pc' := 258) (L' := [some (.ref 1000), some (.ref 0), some (.ref 65), some (.int (nI (6 * k)))]) (st' := [.int r]) (h' := kv_wd g1 w1) rfl ?_
  refine kx_st 5 (pc' := 263) (L' := [some (.ref 1000), some (.ref 0), some (.ref 65), some (.int (nI (6 * k)))]) (st' := [.int ((nI (6 * k)) + 1), .ref 1000, .ref 65, .int r]) (h' := kv_wd g1 w1) rfl ?_
  refine kx_iE (k := (6 * k + 1)) (f := xs) rfl rfl (by decide) (kx_nadd (6 * k) 1) (by omega) (by omega) ?_
  refine kx_st 4 (pc' := 268) (L' := [some (.ref 1000), some (.ref 0), some (.ref 65), some (.int (nI (6 * k)))]) (st' := [.int ((nI (6 * k)) + 2), .ref 1000, .int (xs (6 * k + 1)), .ref 65, .int r]) (h' := kv_wd g1 w1) rfl ?_
  refine kx_iE (k := (6 * k + 2)) (f := xs) rfl rfl (by decide) (kx_nadd (6 * k) 2) (by omega) (by omega) ?_
  refine kx_st 4 (pc' := 273) (L' := [some (.ref 1000), some (.ref 0), some (.ref 65), some (.int (nI (6 * k)))]) (st' := [.int ((nI (6 * k)) + 3), .ref 1000, .int (xs (6 * k + 2)), .int (xs (6 * k + 1)), .ref 65, .int r]) (h' := kv_wd g1 w1) rfl ?_
  refine kx_iE (k := (6 * k + 3)) (f := xs) rfl rfl (by decide) (kx_nadd (6 * k) 3) (by omega) (by omega) ?_
  refine kx_call (z := 144) (as := [.ref 65, .int (xs (6 * k + 1)), .int (xs (6 * k + 2)), .int (xs (6 * k + 3))]) (rest := [.int r]) (v := some (.int r)) (h1 := kv_wd g2 w2) rfl hm ?_
  refine kx_st 0 (pc' := 277) (L' := [some (.ref 1000), some (.ref 0), some (.ref 65), some (.int (nI (6 * k)))]) (st' := [.int r, .int r]) (h' := kv_wd g2 w2) rfl ?_
  refine kx_bi (t := 1492) rfl rfl (fun (h277 : r = r) => ?_) (fun (h277 : ¬ (r = r)) => ?_)
  · exact kk g2 w2 hR2
  · exact absurd rfl h277
set_option maxRecDepth 100000 in
theorem lw_c2 {Ln : Nat} {xs : Nat → Int32} {Rl : kv_S → kv_W → Nat → Prop} {k : Nat} {g : kv_S} {w : kv_W} {P : Option Value → kv_H → Prop} (hL : Ln ≤ 3072) (hk : 6 * k + 6 ≤ Ln) (hR : Rl g w k) (hp : kx_ok2 (kv_E0 Ln xs) Rl 83 145 [.int (xs (6 * k + 1)), .int (xs (6 * k + 2))]) (kk : ∀ g2 w2, Rl g2 w2 (k + 1) → kx_V (kv_E0 Ln xs) 900 223 1492 [some (.ref 1000), some (.ref 0), some (.ref 65), some (.int (nI (6 * k)))] [] (kv_wd g2 w2) P) : kx_V (kv_E0 Ln xs) 900 223 282 [some (.ref 1000), some (.ref 0), some (.ref 65), some (.int (nI (6 * k)))] [] (kv_wd g w) P := by
  obtain ⟨r, g1, w1, g2, w2, hx, hm, hR2⟩ := hp g w k hR (by omega)
  refine kx_st 5 (pc' := 287) (L' := [some (.ref 1000), some (.ref 0), some (.ref 65), some (.int (nI (6 * k)))]) (st' := [.int ((nI (6 * k)) + 1), .ref 1000, .ref 0]) (h' := kv_wd g w) rfl ?_
  refine kx_iE (k := (6 * k + 1)) (f := xs) rfl rfl (by decide) (kx_nadd (6 * k) 1) (by omega) (by omega) ?_
  refine kx_st 4 (pc' := 292) (L' := [some (.ref 1000), some (.ref 0), some (.ref 65), some (.int (nI (6 * k)))]) (st' := [.int ((nI (6 * k)) + 2), .ref 1000, .int (xs (6 * k + 1)), .ref 0]) (h' := kv_wd g w) rfl ?_
  refine kx_iE (k := (6 * k + 2)) (f := xs) rfl rfl (by decide) (kx_nadd (6 * k) 2) (by omega) (by omega) ?_
  refine kx_call (z := 83) (as := [.ref 0, .int (xs (6 * k + 1)), .int (xs (6 * k + 2))]) (rest := []) (v := some (.int r)) (h1 := kv_wd g1 w1) rfl hx ?_
  refine kx_st 0 (pc' := 296) (L' := [some (.ref 1000), some (.ref 0), some (.ref 65), some (.int (nI (6 * k)))]) (st' := [.int r]) (h' := kv_wd g1 w1) rfl ?_
  refine kx_st 5 (pc' := 301) (L' := [some (.ref 1000), some (.ref 0), some (.ref 65), some (.int (nI (6 * k)))]) (st' := [.int ((nI (6 * k)) + 1), .ref 1000, .ref 65, .int r]) (h' := kv_wd g1 w1) rfl ?_
  refine kx_iE (k := (6 * k + 1)) (f := xs) rfl rfl (by decide) (kx_nadd (6 * k) 1) (by omega) (by omega) ?_
  refine kx_st 4 (pc' := 306) (L' := [some (.ref 1000), some (.ref 0), some (.ref 65), some (.int (nI (6 * k)))]) (st' := [.int ((nI (6 * k)) + 2), .ref 1000, .int (xs (6 * k + 1)), .ref 65, .int r]) (h' := kv_wd g1 w1) rfl ?_
  refine kx_iE (k := (6 * k + 2)) (f := xs) rfl rfl (by decide) (kx_nadd (6 * k) 2) (by omega) (by omega) ?_
  refine kx_call (z := 145) (as := [.ref 65, .int (xs (6 * k + 1)), .int (xs (6 * k + 2))]) (rest := [.int r]) (v := some (.int r)) (h1 := kv_wd g2 w2) rfl hm ?_
  refine kx_st 0 (pc' := 310) (L' := [some (.ref 1000), some (.ref 0), some (.ref 65), some (.int (nI (6 * k)))]) (st' := [.int r, .int r]) (h' := kv_wd g2 w2) rfl ?_
  refine kx_bi (t := 1492) rfl rfl (fun (h310 : r = r) => ?_) (fun (h310 : ¬ (r = r)) => ?_)
  · exact kk g2 w2 hR2
  · exact absurd rfl h310
set_option maxRecDepth 100000 in
theorem lw_c3 {Ln : Nat} {xs : Nat → Int32} {Rl : kv_S → kv_W → Nat → Prop} {k : Nat} {g : kv_S} {w : kv_W} {P : Option Value → kv_H → Prop} (hL : Ln ≤ 3072) (hk : 6 * k + 6 ≤ Ln) (hR : Rl g w k) (hp : kx_ok2 (kv_E0 Ln xs) Rl 84 147 [.int (xs (6 * k + 1)), .int (xs (6 * k + 2)), .int (xs (6 * k + 3))]) (kk : ∀ g2 w2, Rl g2 w2 (k + 1) → kx_V (kv_E0 Ln xs) 900 223 1492 [some (.ref 1000), some (.ref 0), some (.ref 65), some (.int (nI (6 * k)))] [] (kv_wd g2 w2) P) : kx_V (kv_E0 Ln xs) 900 223 315 [some (.ref 1000), some (.ref 0), some (.ref 65), some (.int (nI (6 * k)))] [] (kv_wd g w) P := by
  obtain ⟨r, g1, w1, g2, w2, hx, hm, hR2⟩ := hp g w k hR (by omega)
  refine kx_st 5 (pc' := 320) (L' := [some (.ref 1000), some (.ref 0), some (.ref 65), some (.int (nI (6 * k)))]) (st' := [.int ((nI (6 * k)) + 1), .ref 1000, .ref 0]) (h' := kv_wd g w) rfl ?_
  refine kx_iE (k := (6 * k + 1)) (f := xs) rfl rfl (by decide) (kx_nadd (6 * k) 1) (by omega) (by omega) ?_
  refine kx_st 4 (pc' := 325) (L' := [some (.ref 1000), some (.ref 0), some (.ref 65), some (.int (nI (6 * k)))]) (st' := [.int ((nI (6 * k)) + 2), .ref 1000, .int (xs (6 * k + 1)), .ref 0]) (h' := kv_wd g w) rfl ?_
  refine kx_iE (k := (6 * k + 2)) (f := xs) rfl rfl (by decide) (kx_nadd (6 * k) 2) (by omega) (by omega) ?_
  refine kx_st 4 (pc' := 330) (L' := [some (.ref 1000), some (.ref 0), some (.ref 65), some (.int (nI (6 * k)))]) (st' := [.int ((nI (6 * k)) + 3), .ref 1000, .int (xs (6 * k + 2)), .int (xs (6 * k + 1)), .ref 0]) (h' := kv_wd g w) rfl ?_
  refine kx_iE (k := (6 * k + 3)) (f := xs) rfl rfl (by decide) (kx_nadd (6 * k) 3) (by omega) (by omega) ?_
  refine kx_call (z := 84) (as := [.ref 0, .int (xs (6 * k + 1)), .int (xs (6 * k + 2)), .int (xs (6 * k + 3))]) (rest := []) (v := some (.int r)) (h1 := kv_wd g1 w1) rfl hx ?_
  refine kx_st 0 (pc' := 334) (L' := [some (.ref 1000), some (.ref 0), some (.ref 65), some (.int (nI (6 * k)))]) (st' := [.int r]) (h' := kv_wd g1 w1) rfl ?_
  refine kx_st 5 (pc' := 339) (L' := [some (.ref 1000), some (.ref 0), some (.ref 65), some (.int (nI (6 * k)))]) (st' := [.int ((nI (6 * k)) + 1), .ref 1000, .ref 65, .int r]) (h' := kv_wd g1 w1) rfl ?_
  refine kx_iE (k := (6 * k + 1)) (f := xs) rfl rfl (by decide) (kx_nadd (6 * k) 1) (by omega) (by omega) ?_
  refine kx_st 4 (pc' := 344) (L' := [some (.ref 1000), some (.ref 0), some (.ref 65), some (.int (nI (6 * k)))]) (st' := [.int ((nI (6 * k)) + 2), .ref 1000, .int (xs (6 * k + 1)), .ref 65, .int r]) (h' := kv_wd g1 w1) rfl ?_
  refine kx_iE (k := (6 * k + 2)) (f := xs) rfl rfl (by decide) (kx_nadd (6 * k) 2) (by omega) (by omega) ?_
  refine kx_st 4 (pc' := 349) (L' := [some (.ref 1000), some (.ref 0), some (.ref 65), some (.int (nI (6 * k)))]) (st' := [.int ((nI (6 * k)) + 3), .ref 1000, .int (xs (6 * k + 2)), .int (xs (6 * k + 1)), .ref 65, .int r]) (h' := kv_wd g1 w1) rfl ?_
  refine kx_iE (k := (6 * k + 3)) (f := xs) rfl rfl (by decide) (kx_nadd (6 * k) 3) (by omega) (by omega) ?_
  refine kx_call (z := 147) (as := [.ref 65, .int (xs (6 * k + 1)), .int (xs (6 * k + 2)), .int (xs (6 * k + 3))]) (rest := [.int r]) (v := some (.int r)) (h1 := kv_wd g2 w2) rfl hm ?_
  refine kx_st 0 (pc' := 353) (L' := [some (.ref 1000), some (.ref 0), some (.ref 65), some (.int (nI (6 * k)))]) (st' := [.int r, .int r]) (h' := kv_wd g2 w2) rfl ?_
  refine kx_bi (t := 1492) rfl rfl (fun (h353 : r = r) => ?_) (fun (h353 : ¬ (r = r)) => ?_)
  · exact kk g2 w2 hR2
  · exact absurd rfl h353
set_option maxRecDepth 100000 in
theorem lw_c4 {Ln : Nat} {xs : Nat → Int32} {Rl : kv_S → kv_W → Nat → Prop} {k : Nat} {g : kv_S} {w : kv_W} {P : Option Value → kv_H → Prop} (hL : Ln ≤ 3072) (hk : 6 * k + 6 ≤ Ln) (hR : Rl g w k) (hp : kx_ok2 (kv_E0 Ln xs) Rl 85 149 [.int (xs (6 * k + 1)), .int (xs (6 * k + 2))]) (kk : ∀ g2 w2, Rl g2 w2 (k + 1) → kx_V (kv_E0 Ln xs) 900 223 1492 [some (.ref 1000), some (.ref 0), some (.ref 65), some (.int (nI (6 * k)))] [] (kv_wd g2 w2) P) : kx_V (kv_E0 Ln xs) 900 223 358 [some (.ref 1000), some (.ref 0), some (.ref 65), some (.int (nI (6 * k)))] [] (kv_wd g w) P := by
  obtain ⟨r, g1, w1, g2, w2, hx, hm, hR2⟩ := hp g w k hR (by omega)
  refine kx_st 5 (pc' := 363) (L' := [some (.ref 1000), some (.ref 0), some (.ref 65), some (.int (nI (6 * k)))]) (st' := [.int ((nI (6 * k)) + 1), .ref 1000, .ref 0]) (h' := kv_wd g w) rfl ?_
  refine kx_iE (k := (6 * k + 1)) (f := xs) rfl rfl (by decide) (kx_nadd (6 * k) 1) (by omega) (by omega) ?_
  refine kx_st 4 (pc' := 368) (L' := [some (.ref 1000), some (.ref 0), some (.ref 65), some (.int (nI (6 * k)))]) (st' := [.int ((nI (6 * k)) + 2), .ref 1000, .int (xs (6 * k + 1)), .ref 0]) (h' := kv_wd g w) rfl ?_
  refine kx_iE (k := (6 * k + 2)) (f := xs) rfl rfl (by decide) (kx_nadd (6 * k) 2) (by omega) (by omega) ?_
  refine kx_call (z := 85) (as := [.ref 0, .int (xs (6 * k + 1)), .int (xs (6 * k + 2))]) (rest := []) (v := some (.int r)) (h1 := kv_wd g1 w1) rfl hx ?_
  refine kx_st 0 (pc' := 372) (L' := [some (.ref 1000), some (.ref 0), some (.ref 65), some (.int (nI (6 * k)))]) (st' := [.int r]) (h' := kv_wd g1 w1) rfl ?_
  refine kx_st 5 (pc' := 377) (L' := [some (.ref 1000), some (.ref 0), some (.ref 65), some (.int (nI (6 * k)))]) (st' := [.int ((nI (6 * k)) + 1), .ref 1000, .ref 65, .int r]) (h' := kv_wd g1 w1) rfl ?_
  refine kx_iE (k := (6 * k + 1)) (f := xs) rfl rfl (by decide) (kx_nadd (6 * k) 1) (by omega) (by omega) ?_
  refine kx_st 4 (pc' := 382) (L' := [some (.ref 1000), some (.ref 0), some (.ref 65), some (.int (nI (6 * k)))]) (st' := [.int ((nI (6 * k)) + 2), .ref 1000, .int (xs (6 * k + 1)), .ref 65, .int r]) (h' := kv_wd g1 w1) rfl ?_
  refine kx_iE (k := (6 * k + 2)) (f := xs) rfl rfl (by decide) (kx_nadd (6 * k) 2) (by omega) (by omega) ?_
  refine kx_call (z := 149) (as := [.ref 65, .int (xs (6 * k + 1)), .int (xs (6 * k + 2))]) (rest := [.int r]) (v := some (.int r)) (h1 := kv_wd g2 w2) rfl hm ?_
  refine kx_st 0 (pc' := 386) (L' := [some (.ref 1000), some (.ref 0), some (.ref 65), some (.int (nI (6 * k)))]) (st' := [.int r, .int r]) (h' := kv_wd g2 w2) rfl ?_
  refine kx_bi (t := 1492) rfl rfl (fun (h386 : r = r) => ?_) (fun (h386 : ¬ (r = r)) => ?_)
  · exact kk g2 w2 hR2
  · exact absurd rfl h386
set_option maxRecDepth 100000 in
theorem lw_c5 {Ln : Nat} {xs : Nat → Int32} {Rl : kv_S → kv_W → Nat → Prop} {k : Nat} {g : kv_S} {w : kv_W} {P : Option Value → kv_H → Prop} (hL : Ln ≤ 3072) (hk : 6 * k + 6 ≤ Ln) (hR : Rl g w k) (hp : kx_ok2 (kv_E0 Ln xs) Rl 86 150 [.int (xs (6 * k + 1)), .int (xs (6 * k + 2))]) (kk : ∀ g2 w2, Rl g2 w2 (k + 1) → kx_V (kv_E0 Ln xs) 900 223 1492 [some (.ref 1000), some (.ref 0), some (.ref 65), some (.int (nI (6 * k)))] [] (kv_wd g2 w2) P) : kx_V (kv_E0 Ln xs) 900 223 391 [some (.ref 1000), some (.ref 0), some (.ref 65), some (.int (nI (6 * k)))] [] (kv_wd g w) P := by
  obtain ⟨r, g1, w1, g2, w2, hx, hm, hR2⟩ := hp g w k hR (by omega)
  refine kx_st 5 (pc' := 396) (L' := [some (.ref 1000), some (.ref 0), some (.ref 65), some (.int (nI (6 * k)))]) (st' := [.int ((nI (6 * k)) + 1), .ref 1000, .ref 0]) (h' := kv_wd g w) rfl ?_
  refine kx_iE (k := (6 * k + 1)) (f := xs) rfl rfl (by decide) (kx_nadd (6 * k) 1) (by omega) (by omega) ?_
  refine kx_st 4 (pc' := 401) (L' := [some (.ref 1000), some (.ref 0), some (.ref 65), some (.int (nI (6 * k)))]) (st' := [.int ((nI (6 * k)) + 2), .ref 1000, .int (xs (6 * k + 1)), .ref 0]) (h' := kv_wd g w) rfl ?_
  refine kx_iE (k := (6 * k + 2)) (f := xs) rfl rfl (by decide) (kx_nadd (6 * k) 2) (by omega) (by omega) ?_
  refine kx_call (z := 86) (as := [.ref 0, .int (xs (6 * k + 1)), .int (xs (6 * k + 2))]) (rest := []) (v := some (.int r)) (h1 := kv_wd g1 w1) rfl hx ?_
  refine kx_st 0 (pc' := 405) (L' := [some (.ref 1000), some (.ref 0), some (.ref 65), some (.int (nI (6 * k)))]) (st' := [.int r]) (h' := kv_wd g1 w1) rfl ?_
  refine kx_st 5 (pc' := 410) (L' := [some (.ref 1000), some (.ref 0), some (.ref 65), some (.int (nI (6 * k)))]) (st' := [.int ((nI (6 * k)) + 1), .ref 1000, .ref 65, .int r]) (h' := kv_wd g1 w1) rfl ?_
  refine kx_iE (k := (6 * k + 1)) (f := xs) rfl rfl (by decide) (kx_nadd (6 * k) 1) (by omega) (by omega) ?_
  refine kx_st 4 (pc' := 415) (L' := [some (.ref 1000), some (.ref 0), some (.ref 65), some (.int (nI (6 * k)))]) (st' := [.int ((nI (6 * k)) + 2), .ref 1000, .int (xs (6 * k + 1)), .ref 65, .int r]) (h' := kv_wd g1 w1) rfl ?_
  refine kx_iE (k := (6 * k + 2)) (f := xs) rfl rfl (by decide) (kx_nadd (6 * k) 2) (by omega) (by omega) ?_
  refine kx_call (z := 150) (as := [.ref 65, .int (xs (6 * k + 1)), .int (xs (6 * k + 2))]) (rest := [.int r]) (v := some (.int r)) (h1 := kv_wd g2 w2) rfl hm ?_
  refine kx_st 0 (pc' := 419) (L' := [some (.ref 1000), some (.ref 0), some (.ref 65), some (.int (nI (6 * k)))]) (st' := [.int r, .int r]) (h' := kv_wd g2 w2) rfl ?_
  refine kx_bi (t := 1492) rfl rfl (fun (h419 : r = r) => ?_) (fun (h419 : ¬ (r = r)) => ?_)
  · exact kk g2 w2 hR2
  · exact absurd rfl h419
set_option maxRecDepth 100000 in
theorem lw_c6 {Ln : Nat} {xs : Nat → Int32} {Rl : kv_S → kv_W → Nat → Prop} {k : Nat} {g : kv_S} {w : kv_W} {P : Option Value → kv_H → Prop} (hL : Ln ≤ 3072) (hk : 6 * k + 6 ≤ Ln) (hR : Rl g w k) (hp : kx_ok2 (kv_E0 Ln xs) Rl 87 151 [.int (xs (6 * k + 1)), .int (xs (6 * k + 2)), .int (xs (6 * k + 3))]) (kk : ∀ g2 w2, Rl g2 w2 (k + 1) → kx_V (kv_E0 Ln xs) 900 223 1492 [some (.ref 1000), some (.ref 0), some (.ref 65), some (.int (nI (6 * k)))] [] (kv_wd g2 w2) P) : kx_V (kv_E0 Ln xs) 900 223 424 [some (.ref 1000), some (.ref 0), some (.ref 65), some (.int (nI (6 * k)))] [] (kv_wd g w) P := by
  obtain ⟨r, g1, w1, g2, w2, hx, hm, hR2⟩ := hp g w k hR (by omega)
  refine kx_st 5 (pc' := 429) (L' := [some (.ref 1000), some (.ref 0), some (.ref 65), some (.int (nI (6 * k)))]) (st' := [.int ((nI (6 * k)) + 1), .ref 1000, .ref 0]) (h' := kv_wd g w) rfl ?_
  refine kx_iE (k := (6 * k + 1)) (f := xs) rfl rfl (by decide) (kx_nadd (6 * k) 1) (by omega) (by omega) ?_
  refine kx_st 4 (pc' := 434) (L' := [some (.ref 1000), some (.ref 0), some (.ref 65), some (.int (nI (6 * k)))]) (st' := [.int ((nI (6 * k)) + 2), .ref 1000, .int (xs (6 * k + 1)), .ref 0]) (h' := kv_wd g w) rfl ?_
  refine kx_iE (k := (6 * k + 2)) (f := xs) rfl rfl (by decide) (kx_nadd (6 * k) 2) (by omega) (by omega) ?_
  refine kx_st 4 (pc' := 439) (L' := [some (.ref 1000), some (.ref 0), some (.ref 65), some (.int (nI (6 * k)))]) (st' := [.int ((nI (6 * k)) + 3), .ref 1000, .int (xs (6 * k + 2)), .int (xs (6 * k + 1)), .ref 0]) (h' := kv_wd g w) rfl ?_
  refine kx_iE (k := (6 * k + 3)) (f := xs) rfl rfl (by decide) (kx_nadd (6 * k) 3) (by omega) (by omega) ?_
  refine kx_call (z := 87) (as := [.ref 0, .int (xs (6 * k + 1)), .int (xs (6 * k + 2)), .int (xs (6 * k + 3))]) (rest := []) (v := some (.int r)) (h1 := kv_wd g1 w1) rfl hx ?_
  refine kx_st 0 (pc' := 443) (L' := [some (.ref 1000), some (.ref 0), some (.ref 65), some (.int (nI (6 * k)))]) (st' := [.int r]) (h' := kv_wd g1 w1) rfl ?_
  refine kx_st 5 (pc' := 448) (L' := [some (.ref 1000), some (.ref 0), some (.ref 65), some (.int (nI (6 * k)))]) (st' := [.int ((nI (6 * k)) + 1), .ref 1000, .ref 65, .int r]) (h' := kv_wd g1 w1) rfl ?_
  refine kx_iE (k := (6 * k + 1)) (f := xs) rfl rfl (by decide) (kx_nadd (6 * k) 1) (by omega) (by omega) ?_
  refine kx_st 4 (pc' := 453) (L' := [some (.ref 1000), some (.ref 0), some (.ref 65), some (.int (nI (6 * k)))]) (st' := [.int ((nI (6 * k)) + 2), .ref 1000, .int (xs (6 * k + 1)), .ref 65, .int r]) (h' := kv_wd g1 w1) rfl ?_
  refine kx_iE (k := (6 * k + 2)) (f := xs) rfl rfl (by decide) (kx_nadd (6 * k) 2) (by omega) (by omega) ?_
  refine kx_st 4 (pc' := 458) (L' := [some (.ref 1000), some (.ref 0), some (.ref 65), some (.int (nI (6 * k)))]) (st' := [.int ((nI (6 * k)) + 3), .ref 1000, .int (xs (6 * k + 2)), .int (xs (6 * k + 1)), .ref 65, .int r]) (h' := kv_wd g1 w1) rfl ?_
  refine kx_iE (k := (6 * k + 3)) (f := xs) rfl rfl (by decide) (kx_nadd (6 * k) 3) (by omega) (by omega) ?_
  refine kx_call (z := 151) (as := [.ref 65, .int (xs (6 * k + 1)), .int (xs (6 * k + 2)), .int (xs (6 * k + 3))]) (rest := [.int r]) (v := some (.int r)) (h1 := kv_wd g2 w2) rfl hm ?_
  refine kx_st 0 (pc' := 462) (L' := [some (.ref 1000), some (.ref 0), some (.ref 65), some (.int (nI (6 * k)))]) (st' := [.int r, .int r]) (h' := kv_wd g2 w2) rfl ?_
  refine kx_bi (t := 1492) rfl rfl (fun (h462 : r = r) => ?_) (fun (h462 : ¬ (r = r)) => ?_)
  · exact kk g2 w2 hR2
  · exact absurd rfl h462
set_option maxRecDepth 100000 in
theorem lw_c7 {Ln : Nat} {xs : Nat → Int32} {Rl : kv_S → kv_W → Nat → Prop} {k : Nat} {g : kv_S} {w : kv_W} {P : Option Value → kv_H → Prop} (hL : Ln ≤ 3072) (hk : 6 * k + 6 ≤ Ln) (hR : Rl g w k) (hp : kx_ok2 (kv_E0 Ln xs) Rl 88 152 [.int (xs (6 * k + 1)), .int (xs (6 * k + 2))]) (kk : ∀ g2 w2, Rl g2 w2 (k + 1) → kx_V (kv_E0 Ln xs) 900 223 1492 [some (.ref 1000), some (.ref 0), some (.ref 65), some (.int (nI (6 * k)))] [] (kv_wd g2 w2) P) : kx_V (kv_E0 Ln xs) 900 223 467 [some (.ref 1000), some (.ref 0), some (.ref 65), some (.int (nI (6 * k)))] [] (kv_wd g w) P := by
  obtain ⟨r, g1, w1, g2, w2, hx, hm, hR2⟩ := hp g w k hR (by omega)
  refine kx_st 5 (pc' := 472) (L' := [some (.ref 1000), some (.ref 0), some (.ref 65), some (.int (nI (6 * k)))]) (st' := [.int ((nI (6 * k)) + 1), .ref 1000, .ref 0]) (h' := kv_wd g w) rfl ?_
  refine kx_iE (k := (6 * k + 1)) (f := xs) rfl rfl (by decide) (kx_nadd (6 * k) 1) (by omega) (by omega) ?_
  refine kx_st 4 (pc' := 477) (L' := [some (.ref 1000), some (.ref 0), some (.ref 65), some (.int (nI (6 * k)))]) (st' := [.int ((nI (6 * k)) + 2), .ref 1000, .int (xs (6 * k + 1)), .ref 0]) (h' := kv_wd g w) rfl ?_
  refine kx_iE (k := (6 * k + 2)) (f := xs) rfl rfl (by decide) (kx_nadd (6 * k) 2) (by omega) (by omega) ?_
  refine kx_call (z := 88) (as := [.ref 0, .int (xs (6 * k + 1)), .int (xs (6 * k + 2))]) (rest := []) (v := some (.int r)) (h1 := kv_wd g1 w1) rfl hx ?_
  refine kx_st 0 (pc' := 481) (L' := [some (.ref 1000), some (.ref 0), some (.ref 65), some (.int (nI (6 * k)))]) (st' := [.int r]) (h' := kv_wd g1 w1) rfl ?_
  refine kx_st 5 (pc' := 486) (L' := [some (.ref 1000), some (.ref 0), some (.ref 65), some (.int (nI (6 * k)))]) (st' := [.int ((nI (6 * k)) + 1), .ref 1000, .ref 65, .int r]) (h' := kv_wd g1 w1) rfl ?_
  refine kx_iE (k := (6 * k + 1)) (f := xs) rfl rfl (by decide) (kx_nadd (6 * k) 1) (by omega) (by omega) ?_
  refine kx_st 4 (pc' := 491) (L' := [some (.ref 1000), some (.ref 0), some (.ref 65), some (.int (nI (6 * k)))]) (st' := [.int ((nI (6 * k)) + 2), .ref 1000, .int (xs (6 * k + 1)), .ref 65, .int r]) (h' := kv_wd g1 w1) rfl ?_
  refine kx_iE (k := (6 * k + 2)) (f := xs) rfl rfl (by decide) (kx_nadd (6 * k) 2) (by omega) (by omega) ?_
  refine kx_call (z := 152) (as := [.ref 65, .int (xs (6 * k + 1)), .int (xs (6 * k + 2))]) (rest := [.int r]) (v := some (.int r)) (h1 := kv_wd g2 w2) rfl hm ?_
  refine kx_st 0 (pc' := 495) (L' := [some (.ref 1000), some (.ref 0), some (.ref 65), some (.int (nI (6 * k)))]) (st' := [.int r, .int r]) (h' := kv_wd g2 w2) rfl ?_
  refine kx_bi (t := 1492) rfl rfl (fun (h495 : r = r) => ?_) (fun (h495 : ¬ (r = r)) => ?_)
  · exact kk g2 w2 hR2
  · exact absurd rfl h495
set_option maxRecDepth 100000 in
theorem lw_c8 {Ln : Nat} {xs : Nat → Int32} {Rl : kv_S → kv_W → Nat → Prop} {k : Nat} {g : kv_S} {w : kv_W} {P : Option Value → kv_H → Prop} (hL : Ln ≤ 3072) (hk : 6 * k + 6 ≤ Ln) (hR : Rl g w k) (hp : kx_ok2 (kv_E0 Ln xs) Rl 89 154 [.int (xs (6 * k + 1)), .int (xs (6 * k + 2))]) (kk : ∀ g2 w2, Rl g2 w2 (k + 1) → kx_V (kv_E0 Ln xs) 900 223 1492 [some (.ref 1000), some (.ref 0), some (.ref 65), some (.int (nI (6 * k)))] [] (kv_wd g2 w2) P) : kx_V (kv_E0 Ln xs) 900 223 500 [some (.ref 1000), some (.ref 0), some (.ref 65), some (.int (nI (6 * k)))] [] (kv_wd g w) P := by
  obtain ⟨r, g1, w1, g2, w2, hx, hm, hR2⟩ := hp g w k hR (by omega)
  refine kx_st 5 (pc' := 505) (L' := [some (.ref 1000), some (.ref 0), some (.ref 65), some (.int (nI (6 * k)))]) (st' := [.int ((nI (6 * k)) + 1), .ref 1000, .ref 0]) (h' := kv_wd g w) rfl ?_
  refine kx_iE (k := (6 * k + 1)) (f := xs) rfl rfl (by decide) (kx_nadd (6 * k) 1) (by omega) (by omega) ?_
  refine kx_st 4 (pc' := 510) (L' := [some (.ref 1000), some (.ref 0), some (.ref 65), some (.int (nI (6 * k)))]) (st' := [.int ((nI (6 * k)) + 2), .ref 1000, .int (xs (6 * k + 1)), .ref 0]) (h' := kv_wd g w) rfl ?_
  refine kx_iE (k := (6 * k + 2)) (f := xs) rfl rfl (by decide) (kx_nadd (6 * k) 2) (by omega) (by omega) ?_
  refine kx_call (z := 89) (as := [.ref 0, .int (xs (6 * k + 1)), .int (xs (6 * k + 2))]) (rest := []) (v := some (.int r)) (h1 := kv_wd g1 w1) rfl hx ?_
  refine kx_st 0 (pc' := 514) (L' := [some (.ref 1000), some (.ref 0), some (.ref 65), some (.int (nI (6 * k)))]) (st' := [.int r]) (h' := kv_wd g1 w1) rfl ?_
  refine kx_st 5 (pc' := 519) (L' := [some (.ref 1000), some (.ref 0), some (.ref 65), some (.int (nI (6 * k)))]) (st' := [.int ((nI (6 * k)) + 1), .ref 1000, .ref 65, .int r]) (h' := kv_wd g1 w1) rfl ?_
  refine kx_iE (k := (6 * k + 1)) (f := xs) rfl rfl (by decide) (kx_nadd (6 * k) 1) (by omega) (by omega) ?_
  refine kx_st 4 (pc' := 524) (L' := [some (.ref 1000), some (.ref 0), some (.ref 65), some (.int (nI (6 * k)))]) (st' := [.int ((nI (6 * k)) + 2), .ref 1000, .int (xs (6 * k + 1)), .ref 65, .int r]) (h' := kv_wd g1 w1) rfl ?_
  refine kx_iE (k := (6 * k + 2)) (f := xs) rfl rfl (by decide) (kx_nadd (6 * k) 2) (by omega) (by omega) ?_
  refine kx_call (z := 154) (as := [.ref 65, .int (xs (6 * k + 1)), .int (xs (6 * k + 2))]) (rest := [.int r]) (v := some (.int r)) (h1 := kv_wd g2 w2) rfl hm ?_
  refine kx_st 0 (pc' := 528) (L' := [some (.ref 1000), some (.ref 0), some (.ref 65), some (.int (nI (6 * k)))]) (st' := [.int r, .int r]) (h' := kv_wd g2 w2) rfl ?_
  refine kx_bi (t := 1492) rfl rfl (fun (h528 : r = r) => ?_) (fun (h528 : ¬ (r = r)) => ?_)
  · exact kk g2 w2 hR2
  · exact absurd rfl h528
set_option maxRecDepth 100000 in
theorem lw_c9 {Ln : Nat} {xs : Nat → Int32} {Rl : kv_S → kv_W → Nat → Prop} {k : Nat} {g : kv_S} {w : kv_W} {P : Option Value → kv_H → Prop} (hL : Ln ≤ 3072) (hk : 6 * k + 6 ≤ Ln) (hR : Rl g w k) (hp : kx_ok2 (kv_E0 Ln xs) Rl 90 169 [.long ((((xs (6 * k + 1)).toInt64) <<< ((32 : Int32).toInt64 &&& 63)) ||| (((xs (6 * k + 2)).toInt64) &&& 4294967295)), .int (xs (6 * k + 3))]) (kk : ∀ g2 w2, Rl g2 w2 (k + 1) → kx_V (kv_E0 Ln xs) 900 223 1492 [some (.ref 1000), some (.ref 0), some (.ref 65), some (.int (nI (6 * k)))] [] (kv_wd g2 w2) P) : kx_V (kv_E0 Ln xs) 900 223 533 [some (.ref 1000), some (.ref 0), some (.ref 65), some (.int (nI (6 * k)))] [] (kv_wd g w) P := by
  obtain ⟨r, g1, w1, g2, w2, hx, hm, hR2⟩ := hp g w k hR (by omega)
  refine kx_st 5 (pc' := 538) (L' := [some (.ref 1000), some (.ref 0), some (.ref 65), some (.int (nI (6 * k)))]) (st' := [.int ((nI (6 * k)) + 1), .ref 1000, .ref 0]) (h' := kv_wd g w) rfl ?_
  refine kx_iE (k := (6 * k + 1)) (f := xs) rfl rfl (by decide) (kx_nadd (6 * k) 1) (by omega) (by omega) ?_
  refine kx_st 7 (pc' := 547) (L' := [some (.ref 1000), some (.ref 0), some (.ref 65), some (.int (nI (6 * k)))]) (st' := [.int ((nI (6 * k)) + 2), .ref 1000, .long (((xs (6 * k + 1)).toInt64) <<< ((32 : Int32).toInt64 &&& 63)), .ref 0]) (h' := kv_wd g w) rfl ?_
  refine kx_iE (k := (6 * k + 2)) (f := xs) rfl rfl (by decide) (kx_nadd (6 * k) 2) (by omega) (by omega) ?_
  refine kx_st 8 (pc' := 558) (L' := [some (.ref 1000), some (.ref 0), some (.ref 65), some (.int (nI (6 * k)))]) (st' := [.int ((nI (6 * k)) + 3), .ref 1000, .long ((((xs (6 * k + 1)).toInt64) <<< ((32 : Int32).toInt64 &&& 63)) ||| (((xs (6 * k + 2)).toInt64) &&& 4294967295)), .ref 0]) (h' := kv_wd g w) rfl ?_
  refine kx_iE (k := (6 * k + 3)) (f := xs) rfl rfl (by decide) (kx_nadd (6 * k) 3) (by omega) (by omega) ?_
  refine kx_call (z := 90) (as := [.ref 0, .long ((((xs (6 * k + 1)).toInt64) <<< ((32 : Int32).toInt64 &&& 63)) ||| (((xs (6 * k + 2)).toInt64) &&& 4294967295)), .int (xs (6 * k + 3))]) (rest := []) (v := some (.int r)) (h1 := kv_wd g1 w1) rfl hx ?_
  refine kx_st 0 (pc' := 562) (L' := [some (.ref 1000), some (.ref 0), some (.ref 65), some (.int (nI (6 * k)))]) (st' := [.int r]) (h' := kv_wd g1 w1) rfl ?_
  refine kx_st 5 (pc' := 567) (L' := [some (.ref 1000), some (.ref 0), some (.ref 65), some (.int (nI (6 * k)))]) (st' := [.int ((nI (6 * k)) + 1), .ref 1000, .ref 65, .int r]) (h' := kv_wd g1 w1) rfl ?_
  refine kx_iE (k := (6 * k + 1)) (f := xs) rfl rfl (by decide) (kx_nadd (6 * k) 1) (by omega) (by omega) ?_
  refine kx_st 7 (pc' := 576) (L' := [some (.ref 1000), some (.ref 0), some (.ref 65), some (.int (nI (6 * k)))]) (st' := [.int ((nI (6 * k)) + 2), .ref 1000, .long (((xs (6 * k + 1)).toInt64) <<< ((32 : Int32).toInt64 &&& 63)), .ref 65, .int r]) (h' := kv_wd g1 w1) rfl ?_
  refine kx_iE (k := (6 * k + 2)) (f := xs) rfl rfl (by decide) (kx_nadd (6 * k) 2) (by omega) (by omega) ?_
  refine kx_st 8 (pc' := 587) (L' := [some (.ref 1000), some (.ref 0), some (.ref 65), some (.int (nI (6 * k)))]) (st' := [.int ((nI (6 * k)) + 3), .ref 1000, .long ((((xs (6 * k + 1)).toInt64) <<< ((32 : Int32).toInt64 &&& 63)) ||| (((xs (6 * k + 2)).toInt64) &&& 4294967295)), .ref 65, .int r]) (h' := kv_wd g1 w1) rfl ?_
  refine kx_iE (k := (6 * k + 3)) (f := xs) rfl rfl (by decide) (kx_nadd (6 * k) 3) (by omega) (by omega) ?_
  refine kx_call (z := 169) (as := [.ref 65, .long ((((xs (6 * k + 1)).toInt64) <<< ((32 : Int32).toInt64 &&& 63)) ||| (((xs (6 * k + 2)).toInt64) &&& 4294967295)), .int (xs (6 * k + 3))]) (rest := [.int r]) (v := some (.int r)) (h1 := kv_wd g2 w2) rfl hm ?_
  refine kx_st 0 (pc' := 591) (L' := [some (.ref 1000), some (.ref 0), some (.ref 65), some (.int (nI (6 * k)))]) (st' := [.int r, .int r]) (h' := kv_wd g2 w2) rfl ?_
  refine kx_bi (t := 1492) rfl rfl (fun (h591 : r = r) => ?_) (fun (h591 : ¬ (r = r)) => ?_)
  · exact kk g2 w2 hR2
  · exact absurd rfl h591
set_option maxRecDepth 100000 in
theorem lw_c10 {Ln : Nat} {xs : Nat → Int32} {Rl : kv_S → kv_W → Nat → Prop} {k : Nat} {g : kv_S} {w : kv_W} {P : Option Value → kv_H → Prop} (hL : Ln ≤ 3072) (hk : 6 * k + 6 ≤ Ln) (hR : Rl g w k) (hp : kx_ok2 (kv_E0 Ln xs) Rl 91 170 [.int (xs (6 * k + 1))]) (kk : ∀ g2 w2, Rl g2 w2 (k + 1) → kx_V (kv_E0 Ln xs) 900 223 1492 [some (.ref 1000), some (.ref 0), some (.ref 65), some (.int (nI (6 * k)))] [] (kv_wd g2 w2) P) : kx_V (kv_E0 Ln xs) 900 223 596 [some (.ref 1000), some (.ref 0), some (.ref 65), some (.int (nI (6 * k)))] [] (kv_wd g w) P := by
  obtain ⟨r, g1, w1, g2, w2, hx, hm, hR2⟩ := hp g w k hR (by omega)
  refine kx_st 5 (pc' := 601) (L' := [some (.ref 1000), some (.ref 0), some (.ref 65), some (.int (nI (6 * k)))]) (st' := [.int ((nI (6 * k)) + 1), .ref 1000, .ref 0]) (h' := kv_wd g w) rfl ?_
  refine kx_iE (k := (6 * k + 1)) (f := xs) rfl rfl (by decide) (kx_nadd (6 * k) 1) (by omega) (by omega) ?_
  refine kx_call (z := 91) (as := [.ref 0, .int (xs (6 * k + 1))]) (rest := []) (v := some (.int r)) (h1 := kv_wd g1 w1) rfl hx ?_
  refine kx_st 0 (pc' := 605) (L' := [some (.ref 1000), some (.ref 0), some (.ref 65), some (.int (nI (6 * k)))]) (st' := [.int r]) (h' := kv_wd g1 w1) rfl ?_
  refine kx_st 5 (pc' := 610) (L' := [some (.ref 1000), some (.ref 0), some (.ref 65), some (.int (nI (6 * k)))]) (st' := [.int ((nI (6 * k)) + 1), .ref 1000, .ref 65, .int r]) (h' := kv_wd g1 w1) rfl ?_
  refine kx_iE (k := (6 * k + 1)) (f := xs) rfl rfl (by decide) (kx_nadd (6 * k) 1) (by omega) (by omega) ?_
  refine kx_call (z := 170) (as := [.ref 65, .int (xs (6 * k + 1))]) (rest := [.int r]) (v := some (.int r)) (h1 := kv_wd g2 w2) rfl hm ?_
  refine kx_st 0 (pc' := 614) (L' := [some (.ref 1000), some (.ref 0), some (.ref 65), some (.int (nI (6 * k)))]) (st' := [.int r, .int r]) (h' := kv_wd g2 w2) rfl ?_
  refine kx_bi (t := 1492) rfl rfl (fun (h614 : r = r) => ?_) (fun (h614 : ¬ (r = r)) => ?_)
  · exact kk g2 w2 hR2
  · exact absurd rfl h614
set_option maxRecDepth 100000 in
theorem lw_c11 {Ln : Nat} {xs : Nat → Int32} {Rl : kv_S → kv_W → Nat → Prop} {k : Nat} {g : kv_S} {w : kv_W} {P : Option Value → kv_H → Prop} (hL : Ln ≤ 3072) (hk : 6 * k + 6 ≤ Ln) (hR : Rl g w k) (hp : kx_ok2 (kv_E0 Ln xs) Rl 92 168 [.int (xs (6 * k + 1)), .int (xs (6 * k + 2)), .int (xs (6 * k + 3)), .int (xs (6 * k + 4))]) (kk : ∀ g2 w2, Rl g2 w2 (k + 1) → kx_V (kv_E0 Ln xs) 900 223 1492 [some (.ref 1000), some (.ref 0), some (.ref 65), some (.int (nI (6 * k)))] [] (kv_wd g2 w2) P) : kx_V (kv_E0 Ln xs) 900 223 619 [some (.ref 1000), some (.ref 0), some (.ref 65), some (.int (nI (6 * k)))] [] (kv_wd g w) P := by
  obtain ⟨r, g1, w1, g2, w2, hx, hm, hR2⟩ := hp g w k hR (by omega)
  refine kx_st 5 (pc' := 624) (L' := [some (.ref 1000), some (.ref 0), some (.ref 65), some (.int (nI (6 * k)))]) (st' := [.int ((nI (6 * k)) + 1), .ref 1000, .ref 0]) (h' := kv_wd g w) rfl ?_
  refine kx_iE (k := (6 * k + 1)) (f := xs) rfl rfl (by decide) (kx_nadd (6 * k) 1) (by omega) (by omega) ?_
  refine kx_st 4 (pc' := 629) (L' := [some (.ref 1000), some (.ref 0), some (.ref 65), some (.int (nI (6 * k)))]) (st' := [.int ((nI (6 * k)) + 2), .ref 1000, .int (xs (6 * k + 1)), .ref 0]) (h' := kv_wd g w) rfl ?_
  refine kx_iE (k := (6 * k + 2)) (f := xs) rfl rfl (by decide) (kx_nadd (6 * k) 2) (by omega) (by omega) ?_
  refine kx_st 4 (pc' := 634) (L' := [some (.ref 1000), some (.ref 0), some (.ref 65), some (.int (nI (6 * k)))]) (st' := [.int ((nI (6 * k)) + 3), .ref 1000, .int (xs (6 * k + 2)), .int (xs (6 * k + 1)), .ref 0]) (h' := kv_wd g w) rfl ?_
  refine kx_iE (k := (6 * k + 3)) (f := xs) rfl rfl (by decide) (kx_nadd (6 * k) 3) (by omega) (by omega) ?_
  refine kx_st 4 (pc' := 639) (L' := [some (.ref 1000), some (.ref 0), some (.ref 65), some (.int (nI (6 * k)))]) (st' := [.int ((nI (6 * k)) + 4), .ref 1000, .int (xs (6 * k + 3)), .int (xs (6 * k + 2)), .int (xs (6 * k + 1)), .ref 0]) (h' := kv_wd g w) rfl ?_
  refine kx_iE (k := (6 * k + 4)) (f := xs) rfl rfl (by decide) (kx_nadd (6 * k) 4) (by omega) (by omega) ?_
  refine kx_call (z := 92) (as := [.ref 0, .int (xs (6 * k + 1)), .int (xs (6 * k + 2)), .int (xs (6 * k + 3)), .int (xs (6 * k + 4))]) (rest := []) (v := some (.int r)) (h1 := kv_wd g1 w1) rfl hx ?_
  refine kx_st 0 (pc' := 643) (L' := [some (.ref 1000), some (.ref 0), some (.ref 65), some (.int (nI (6 * k)))]) (st' := [.int r]) (h' := kv_wd g1 w1) rfl ?_
  refine kx_st 5 (pc' := 648) (L' := [some (.ref 1000), some (.ref 0), some (.ref 65), some (.int (nI (6 * k)))]) (st' := [.int ((nI (6 * k)) + 1), .ref 1000, .ref 65, .int r]) (h' := kv_wd g1 w1) rfl ?_
  refine kx_iE (k := (6 * k + 1)) (f := xs) rfl rfl (by decide) (kx_nadd (6 * k) 1) (by omega) (by omega) ?_
  refine kx_st 4 (pc' := 653) (L' := [some (.ref 1000), some (.ref 0), some (.ref 65), some (.int (nI (6 * k)))]) (st' := [.int ((nI (6 * k)) + 2), .ref 1000, .int (xs (6 * k + 1)), .ref 65, .int r]) (h' := kv_wd g1 w1) rfl ?_
  refine kx_iE (k := (6 * k + 2)) (f := xs) rfl rfl (by decide) (kx_nadd (6 * k) 2) (by omega) (by omega) ?_
  refine kx_st 4 (pc' := 658) (L' := [some (.ref 1000), some (.ref 0), some (.ref 65), some (.int (nI (6 * k)))]) (st' := [.int ((nI (6 * k)) + 3), .ref 1000, .int (xs (6 * k + 2)), .int (xs (6 * k + 1)), .ref 65, .int r]) (h' := kv_wd g1 w1) rfl ?_
  refine kx_iE (k := (6 * k + 3)) (f := xs) rfl rfl (by decide) (kx_nadd (6 * k) 3) (by omega) (by omega) ?_
  refine kx_st 4 (pc' := 663) (L' := [some (.ref 1000), some (.ref 0), some (.ref 65), some (.int (nI (6 * k)))]) (st' := [.int ((nI (6 * k)) + 4), .ref 1000, .int (xs (6 * k + 3)), .int (xs (6 * k + 2)), .int (xs (6 * k + 1)), .ref 65, .int r]) (h' := kv_wd g1 w1) rfl ?_
  refine kx_iE (k := (6 * k + 4)) (f := xs) rfl rfl (by decide) (kx_nadd (6 * k) 4) (by omega) (by omega) ?_
  refine kx_call (z := 168) (as := [.ref 65, .int (xs (6 * k + 1)), .int (xs (6 * k + 2)), .int (xs (6 * k + 3)), .int (xs (6 * k + 4))]) (rest := [.int r]) (v := some (.int r)) (h1 := kv_wd g2 w2) rfl hm ?_
  refine kx_st 0 (pc' := 667) (L' := [some (.ref 1000), some (.ref 0), some (.ref 65), some (.int (nI (6 * k)))]) (st' := [.int r, .int r]) (h' := kv_wd g2 w2) rfl ?_
  refine kx_bi (t := 1492) rfl rfl (fun (h667 : r = r) => ?_) (fun (h667 : ¬ (r = r)) => ?_)
  · exact kk g2 w2 hR2
  · exact absurd rfl h667
set_option maxRecDepth 100000 in
theorem lw_c12 {Ln : Nat} {xs : Nat → Int32} {Rl : kv_S → kv_W → Nat → Prop} {k : Nat} {g : kv_S} {w : kv_W} {P : Option Value → kv_H → Prop} (hL : Ln ≤ 3072) (hk : 6 * k + 6 ≤ Ln) (hR : Rl g w k) (hp : kx_ok2 (kv_E0 Ln xs) Rl 93 181 [.int (xs (6 * k + 1))]) (kk : ∀ g2 w2, Rl g2 w2 (k + 1) → kx_V (kv_E0 Ln xs) 900 223 1492 [some (.ref 1000), some (.ref 0), some (.ref 65), some (.int (nI (6 * k)))] [] (kv_wd g2 w2) P) : kx_V (kv_E0 Ln xs) 900 223 672 [some (.ref 1000), some (.ref 0), some (.ref 65), some (.int (nI (6 * k)))] [] (kv_wd g w) P := by
  obtain ⟨r, g1, w1, g2, w2, hx, hm, hR2⟩ := hp g w k hR (by omega)
  refine kx_st 5 (pc' := 677) (L' := [some (.ref 1000), some (.ref 0), some (.ref 65), some (.int (nI (6 * k)))]) (st' := [.int ((nI (6 * k)) + 1), .ref 1000, .ref 0]) (h' := kv_wd g w) rfl ?_
  refine kx_iE (k := (6 * k + 1)) (f := xs) rfl rfl (by decide) (kx_nadd (6 * k) 1) (by omega) (by omega) ?_
  refine kx_call (z := 93) (as := [.ref 0, .int (xs (6 * k + 1))]) (rest := []) (v := some (.int r)) (h1 := kv_wd g1 w1) rfl hx ?_
  refine kx_st 0 (pc' := 681) (L' := [some (.ref 1000), some (.ref 0), some (.ref 65), some (.int (nI (6 * k)))]) (st' := [.int r]) (h' := kv_wd g1 w1) rfl ?_
  refine kx_st 5 (pc' := 686) (L' := [some (.ref 1000), some (.ref 0), some (.ref 65), some (.int (nI (6 * k)))]) (st' := [.int ((nI (6 * k)) + 1), .ref 1000, .ref 65, .int r]) (h' := kv_wd g1 w1) rfl ?_
  refine kx_iE (k := (6 * k + 1)) (f := xs) rfl rfl (by decide) (kx_nadd (6 * k) 1) (by omega) (by omega) ?_
  refine kx_call (z := 181) (as := [.ref 65, .int (xs (6 * k + 1))]) (rest := [.int r]) (v := some (.int r)) (h1 := kv_wd g2 w2) rfl hm ?_
  refine kx_st 0 (pc' := 690) (L' := [some (.ref 1000), some (.ref 0), some (.ref 65), some (.int (nI (6 * k)))]) (st' := [.int r, .int r]) (h' := kv_wd g2 w2) rfl ?_
  refine kx_bi (t := 1492) rfl rfl (fun (h690 : r = r) => ?_) (fun (h690 : ¬ (r = r)) => ?_)
  · exact kk g2 w2 hR2
  · exact absurd rfl h690
set_option maxRecDepth 100000 in
theorem lw_c13 {Ln : Nat} {xs : Nat → Int32} {Rl : kv_S → kv_W → Nat → Prop} {k : Nat} {g : kv_S} {w : kv_W} {P : Option Value → kv_H → Prop} (hL : Ln ≤ 3072) (hk : 6 * k + 6 ≤ Ln) (hR : Rl g w k) (hp : kx_ok2 (kv_E0 Ln xs) Rl 94 183 [.int (xs (6 * k + 1))]) (kk : ∀ g2 w2, Rl g2 w2 (k + 1) → kx_V (kv_E0 Ln xs) 900 223 1492 [some (.ref 1000), some (.ref 0), some (.ref 65), some (.int (nI (6 * k)))] [] (kv_wd g2 w2) P) : kx_V (kv_E0 Ln xs) 900 223 695 [some (.ref 1000), some (.ref 0), some (.ref 65), some (.int (nI (6 * k)))] [] (kv_wd g w) P := by
  obtain ⟨r, g1, w1, g2, w2, hx, hm, hR2⟩ := hp g w k hR (by omega)
  refine kx_st 5 (pc' := 700) (L' := [some (.ref 1000), some (.ref 0), some (.ref 65), some (.int (nI (6 * k)))]) (st' := [.int ((nI (6 * k)) + 1), .ref 1000, .ref 0]) (h' := kv_wd g w) rfl ?_
  refine kx_iE (k := (6 * k + 1)) (f := xs) rfl rfl (by decide) (kx_nadd (6 * k) 1) (by omega) (by omega) ?_
  refine kx_call (z := 94) (as := [.ref 0, .int (xs (6 * k + 1))]) (rest := []) (v := some (.int r)) (h1 := kv_wd g1 w1) rfl hx ?_
  refine kx_st 0 (pc' := 704) (L' := [some (.ref 1000), some (.ref 0), some (.ref 65), some (.int (nI (6 * k)))]) (st' := [.int r]) (h' := kv_wd g1 w1) rfl ?_
  refine kx_st 5 (pc' := 709) (L' := [some (.ref 1000), some (.ref 0), some (.ref 65), some (.int (nI (6 * k)))]) (st' := [.int ((nI (6 * k)) + 1), .ref 1000, .ref 65, .int r]) (h' := kv_wd g1 w1) rfl ?_
  refine kx_iE (k := (6 * k + 1)) (f := xs) rfl rfl (by decide) (kx_nadd (6 * k) 1) (by omega) (by omega) ?_
  refine kx_call (z := 183) (as := [.ref 65, .int (xs (6 * k + 1))]) (rest := [.int r]) (v := some (.int r)) (h1 := kv_wd g2 w2) rfl hm ?_
  refine kx_st 0 (pc' := 713) (L' := [some (.ref 1000), some (.ref 0), some (.ref 65), some (.int (nI (6 * k)))]) (st' := [.int r, .int r]) (h' := kv_wd g2 w2) rfl ?_
  refine kx_bi (t := 1492) rfl rfl (fun (h713 : r = r) => ?_) (fun (h713 : ¬ (r = r)) => ?_)
  · exact kk g2 w2 hR2
  · exact absurd rfl h713
set_option maxRecDepth 100000 in
theorem lw_c14 {Ln : Nat} {xs : Nat → Int32} {Rl : kv_S → kv_W → Nat → Prop} {k : Nat} {g : kv_S} {w : kv_W} {P : Option Value → kv_H → Prop} (hL : Ln ≤ 3072) (hk : 6 * k + 6 ≤ Ln) (hR : Rl g w k) (hp : kx_ok2 (kv_E0 Ln xs) Rl 95 184 [.int (xs (6 * k + 1))]) (kk : ∀ g2 w2, Rl g2 w2 (k + 1) → kx_V (kv_E0 Ln xs) 900 223 1492 [some (.ref 1000), some (.ref 0), some (.ref 65), some (.int (nI (6 * k)))] [] (kv_wd g2 w2) P) : kx_V (kv_E0 Ln xs) 900 223 718 [some (.ref 1000), some (.ref 0), some (.ref 65), some (.int (nI (6 * k)))] [] (kv_wd g w) P := by
  obtain ⟨r, g1, w1, g2, w2, hx, hm, hR2⟩ := hp g w k hR (by omega)
  refine kx_st 5 (pc' := 723) (L' := [some (.ref 1000), some (.ref 0), some (.ref 65), some (.int (nI (6 * k)))]) (st' := [.int ((nI (6 * k)) + 1), .ref 1000, .ref 0]) (h' := kv_wd g w) rfl ?_
  refine kx_iE (k := (6 * k + 1)) (f := xs) rfl rfl (by decide) (kx_nadd (6 * k) 1) (by omega) (by omega) ?_
  refine kx_call (z := 95) (as := [.ref 0, .int (xs (6 * k + 1))]) (rest := []) (v := some (.int r)) (h1 := kv_wd g1 w1) rfl hx ?_
  refine kx_st 0 (pc' := 727) (L' := [some (.ref 1000), some (.ref 0), some (.ref 65), some (.int (nI (6 * k)))]) (st' := [.int r]) (h' := kv_wd g1 w1) rfl ?_
  refine kx_st 5 (pc' := 732) (L' := [some (.ref 1000), some (.ref 0), some (.ref 65), some (.int (nI (6 * k)))]) (st' := [.int ((nI (6 * k)) + 1), .ref 1000, .ref 65, .int r]) (h' := kv_wd g1 w1) rfl ?_
  refine kx_iE (k := (6 * k + 1)) (f := xs) rfl rfl (by decide) (kx_nadd (6 * k) 1) (by omega) (by omega) ?_
  refine kx_call (z := 184) (as := [.ref 65, .int (xs (6 * k + 1))]) (rest := [.int r]) (v := some (.int r)) (h1 := kv_wd g2 w2) rfl hm ?_
  refine kx_st 0 (pc' := 736) (L' := [some (.ref 1000), some (.ref 0), some (.ref 65), some (.int (nI (6 * k)))]) (st' := [.int r, .int r]) (h' := kv_wd g2 w2) rfl ?_
  refine kx_bi (t := 1492) rfl rfl (fun (h736 : r = r) => ?_) (fun (h736 : ¬ (r = r)) => ?_)
  · exact kk g2 w2 hR2
  · exact absurd rfl h736
set_option maxRecDepth 100000 in
theorem lw_c15 {Ln : Nat} {xs : Nat → Int32} {Rl : kv_S → kv_W → Nat → Prop} {k : Nat} {g : kv_S} {w : kv_W} {P : Option Value → kv_H → Prop} (hL : Ln ≤ 3072) (hk : 6 * k + 6 ≤ Ln) (hR : Rl g w k) (hp : kx_ok2 (kv_E0 Ln xs) Rl 96 185 [.int (xs (6 * k + 1)), .int (xs (6 * k + 2)), .int (xs (6 * k + 3))]) (kk : ∀ g2 w2, Rl g2 w2 (k + 1) → kx_V (kv_E0 Ln xs) 900 223 1492 [some (.ref 1000), some (.ref 0), some (.ref 65), some (.int (nI (6 * k)))] [] (kv_wd g2 w2) P) : kx_V (kv_E0 Ln xs) 900 223 741 [some (.ref 1000), some (.ref 0), some (.ref 65), some (.int (nI (6 * k)))] [] (kv_wd g w) P := by
  obtain ⟨r, g1, w1, g2, w2, hx, hm, hR2⟩ := hp g w k hR (by omega)
  refine kx_st 5 (pc' := 746) (L' := [some (.ref 1000), some (.ref 0), some (.ref 65), some (.int (nI (6 * k)))]) (st' := [.int ((nI (6 * k)) + 1), .ref 1000, .ref 0]) (h' := kv_wd g w) rfl ?_
  refine kx_iE (k := (6 * k + 1)) (f := xs) rfl rfl (by decide) (kx_nadd (6 * k) 1) (by omega) (by omega) ?_
  refine kx_st 4 (pc' := 751) (L' := [some (.ref 1000), some (.ref 0), some (.ref 65), some (.int (nI (6 * k)))]) (st' := [.int ((nI (6 * k)) + 2), .ref 1000, .int (xs (6 * k + 1)), .ref 0]) (h' := kv_wd g w) rfl ?_
  refine kx_iE (k := (6 * k + 2)) (f := xs) rfl rfl (by decide) (kx_nadd (6 * k) 2) (by omega) (by omega) ?_
  refine kx_st 4 (pc' := 756) (L' := [some (.ref 1000), some (.ref 0), some (.ref 65), some (.int (nI (6 * k)))]) (st' := [.int ((nI (6 * k)) + 3), .ref 1000, .int (xs (6 * k + 2)), .int (xs (6 * k + 1)), .ref 0]) (h' := kv_wd g w) rfl ?_
  refine kx_iE (k := (6 * k + 3)) (f := xs) rfl rfl (by decide) (kx_nadd (6 * k) 3) (by omega) (by omega) ?_
  refine kx_call (z := 96) (as := [.ref 0, .int (xs (6 * k + 1)), .int (xs (6 * k + 2)), .int (xs (6 * k + 3))]) (rest := []) (v := some (.int r)) (h1 := kv_wd g1 w1) rfl hx ?_
  refine kx_st 0 (pc' := 760) (L' := [some (.ref 1000), some (.ref 0), some (.ref 65), some (.int (nI (6 * k)))]) (st' := [.int r]) (h' := kv_wd g1 w1) rfl ?_
  refine kx_st 5 (pc' := 765) (L' := [some (.ref 1000), some (.ref 0), some (.ref 65), some (.int (nI (6 * k)))]) (st' := [.int ((nI (6 * k)) + 1), .ref 1000, .ref 65, .int r]) (h' := kv_wd g1 w1) rfl ?_
  refine kx_iE (k := (6 * k + 1)) (f := xs) rfl rfl (by decide) (kx_nadd (6 * k) 1) (by omega) (by omega) ?_
  refine kx_st 4 (pc' := 770) (L' := [some (.ref 1000), some (.ref 0), some (.ref 65), some (.int (nI (6 * k)))]) (st' := [.int ((nI (6 * k)) + 2), .ref 1000, .int (xs (6 * k + 1)), .ref 65, .int r]) (h' := kv_wd g1 w1) rfl ?_
  refine kx_iE (k := (6 * k + 2)) (f := xs) rfl rfl (by decide) (kx_nadd (6 * k) 2) (by omega) (by omega) ?_
  refine kx_st 4 (pc' := 775) (L' := [some (.ref 1000), some (.ref 0), some (.ref 65), some (.int (nI (6 * k)))]) (st' := [.int ((nI (6 * k)) + 3), .ref 1000, .int (xs (6 * k + 2)), .int (xs (6 * k + 1)), .ref 65, .int r]) (h' := kv_wd g1 w1) rfl ?_
  refine kx_iE (k := (6 * k + 3)) (f := xs) rfl rfl (by decide) (kx_nadd (6 * k) 3) (by omega) (by omega) ?_
  refine kx_call (z := 185) (as := [.ref 65, .int (xs (6 * k + 1)), .int (xs (6 * k + 2)), .int (xs (6 * k + 3))]) (rest := [.int r]) (v := some (.int r)) (h1 := kv_wd g2 w2) rfl hm ?_
  refine kx_st 0 (pc' := 779) (L' := [some (.ref 1000), some (.ref 0), some (.ref 65), some (.int (nI (6 * k)))]) (st' := [.int r, .int r]) (h' := kv_wd g2 w2) rfl ?_
  refine kx_bi (t := 1492) rfl rfl (fun (h779 : r = r) => ?_) (fun (h779 : ¬ (r = r)) => ?_)
  · exact kk g2 w2 hR2
  · exact absurd rfl h779
set_option maxRecDepth 100000 in
theorem lw_c16 {Ln : Nat} {xs : Nat → Int32} {Rl : kv_S → kv_W → Nat → Prop} {k : Nat} {g : kv_S} {w : kv_W} {P : Option Value → kv_H → Prop} (hL : Ln ≤ 3072) (hk : 6 * k + 6 ≤ Ln) (hR : Rl g w k) (hp : kx_ok2 (kv_E0 Ln xs) Rl 97 177 [.int (xs (6 * k + 1)), .int (xs (6 * k + 2)), .int (xs (6 * k + 3))]) (kk : ∀ g2 w2, Rl g2 w2 (k + 1) → kx_V (kv_E0 Ln xs) 900 223 1492 [some (.ref 1000), some (.ref 0), some (.ref 65), some (.int (nI (6 * k)))] [] (kv_wd g2 w2) P) : kx_V (kv_E0 Ln xs) 900 223 784 [some (.ref 1000), some (.ref 0), some (.ref 65), some (.int (nI (6 * k)))] [] (kv_wd g w) P := by
  obtain ⟨r, g1, w1, g2, w2, hx, hm, hR2⟩ := hp g w k hR (by omega)
  refine kx_st 5 (pc' := 789) (L' := [some (.ref 1000), some (.ref 0), some (.ref 65), some (.int (nI (6 * k)))]) (st' := [.int ((nI (6 * k)) + 1), .ref 1000, .ref 0]) (h' := kv_wd g w) rfl ?_
  refine kx_iE (k := (6 * k + 1)) (f := xs) rfl rfl (by decide) (kx_nadd (6 * k) 1) (by omega) (by omega) ?_
  refine kx_st 4 (pc' := 794) (L' := [some (.ref 1000), some (.ref 0), some (.ref 65), some (.int (nI (6 * k)))]) (st' := [.int ((nI (6 * k)) + 2), .ref 1000, .int (xs (6 * k + 1)), .ref 0]) (h' := kv_wd g w) rfl ?_
  refine kx_iE (k := (6 * k + 2)) (f := xs) rfl rfl (by decide) (kx_nadd (6 * k) 2) (by omega) (by omega) ?_
  refine kx_st 4 (pc' := 799) (L' := [some (.ref 1000), some (.ref 0), some (.ref 65), some (.int (nI (6 * k)))]) (st' := [.int ((nI (6 * k)) + 3), .ref 1000, .int (xs (6 * k + 2)), .int (xs (6 * k + 1)), .ref 0]) (h' := kv_wd g w) rfl ?_
  refine kx_iE (k := (6 * k + 3)) (f := xs) rfl rfl (by decide) (kx_nadd (6 * k) 3) (by omega) (by omega) ?_
  refine kx_call (z := 97) (as := [.ref 0, .int (xs (6 * k + 1)), .int (xs (6 * k + 2)), .int (xs (6 * k + 3))]) (rest := []) (v := some (.int r)) (h1 := kv_wd g1 w1) rfl hx ?_
  refine kx_st 0 (pc' := 803) (L' := [some (.ref 1000), some (.ref 0), some (.ref 65), some (.int (nI (6 * k)))]) (st' := [.int r]) (h' := kv_wd g1 w1) rfl ?_
  refine kx_st 5 (pc' := 808) (L' := [some (.ref 1000), some (.ref 0), some (.ref 65), some (.int (nI (6 * k)))]) (st' := [.int ((nI (6 * k)) + 1), .ref 1000, .ref 65, .int r]) (h' := kv_wd g1 w1) rfl ?_
  refine kx_iE (k := (6 * k + 1)) (f := xs) rfl rfl (by decide) (kx_nadd (6 * k) 1) (by omega) (by omega) ?_
  refine kx_st 4 (pc' := 813) (L' := [some (.ref 1000), some (.ref 0), some (.ref 65), some (.int (nI (6 * k)))]) (st' := [.int ((nI (6 * k)) + 2), .ref 1000, .int (xs (6 * k + 1)), .ref 65, .int r]) (h' := kv_wd g1 w1) rfl ?_
  refine kx_iE (k := (6 * k + 2)) (f := xs) rfl rfl (by decide) (kx_nadd (6 * k) 2) (by omega) (by omega) ?_
  refine kx_st 4 (pc' := 818) (L' := [some (.ref 1000), some (.ref 0), some (.ref 65), some (.int (nI (6 * k)))]) (st' := [.int ((nI (6 * k)) + 3), .ref 1000, .int (xs (6 * k + 2)), .int (xs (6 * k + 1)), .ref 65, .int r]) (h' := kv_wd g1 w1) rfl ?_
  refine kx_iE (k := (6 * k + 3)) (f := xs) rfl rfl (by decide) (kx_nadd (6 * k) 3) (by omega) (by omega) ?_
  refine kx_call (z := 177) (as := [.ref 65, .int (xs (6 * k + 1)), .int (xs (6 * k + 2)), .int (xs (6 * k + 3))]) (rest := [.int r]) (v := some (.int r)) (h1 := kv_wd g2 w2) rfl hm ?_
  refine kx_st 0 (pc' := 822) (L' := [some (.ref 1000), some (.ref 0), some (.ref 65), some (.int (nI (6 * k)))]) (st' := [.int r, .int r]) (h' := kv_wd g2 w2) rfl ?_
  refine kx_bi (t := 1492) rfl rfl (fun (h822 : r = r) => ?_) (fun (h822 : ¬ (r = r)) => ?_)
  · exact kk g2 w2 hR2
  · exact absurd rfl h822
set_option maxRecDepth 100000 in
theorem lw_c17 {Ln : Nat} {xs : Nat → Int32} {Rl : kv_S → kv_W → Nat → Prop} {k : Nat} {g : kv_S} {w : kv_W} {P : Option Value → kv_H → Prop} (hL : Ln ≤ 3072) (hk : 6 * k + 6 ≤ Ln) (hR : Rl g w k) (hp : kx_ok2 (kv_E0 Ln xs) Rl 98 186 [.int (xs (6 * k + 1))]) (kk : ∀ g2 w2, Rl g2 w2 (k + 1) → kx_V (kv_E0 Ln xs) 900 223 1492 [some (.ref 1000), some (.ref 0), some (.ref 65), some (.int (nI (6 * k)))] [] (kv_wd g2 w2) P) : kx_V (kv_E0 Ln xs) 900 223 827 [some (.ref 1000), some (.ref 0), some (.ref 65), some (.int (nI (6 * k)))] [] (kv_wd g w) P := by
  obtain ⟨r, g1, w1, g2, w2, hx, hm, hR2⟩ := hp g w k hR (by omega)
  refine kx_st 5 (pc' := 832) (L' := [some (.ref 1000), some (.ref 0), some (.ref 65), some (.int (nI (6 * k)))]) (st' := [.int ((nI (6 * k)) + 1), .ref 1000, .ref 0]) (h' := kv_wd g w) rfl ?_
  refine kx_iE (k := (6 * k + 1)) (f := xs) rfl rfl (by decide) (kx_nadd (6 * k) 1) (by omega) (by omega) ?_
  refine kx_call (z := 98) (as := [.ref 0, .int (xs (6 * k + 1))]) (rest := []) (v := some (.int r)) (h1 := kv_wd g1 w1) rfl hx ?_
  refine kx_st 0 (pc' := 836) (L' := [some (.ref 1000), some (.ref 0), some (.ref 65), some (.int (nI (6 * k)))]) (st' := [.int r]) (h' := kv_wd g1 w1) rfl ?_
  refine kx_st 5 (pc' := 841) (L' := [some (.ref 1000), some (.ref 0), some (.ref 65), some (.int (nI (6 * k)))]) (st' := [.int ((nI (6 * k)) + 1), .ref 1000, .ref 65, .int r]) (h' := kv_wd g1 w1) rfl ?_
  refine kx_iE (k := (6 * k + 1)) (f := xs) rfl rfl (by decide) (kx_nadd (6 * k) 1) (by omega) (by omega) ?_
  refine kx_call (z := 186) (as := [.ref 65, .int (xs (6 * k + 1))]) (rest := [.int r]) (v := some (.int r)) (h1 := kv_wd g2 w2) rfl hm ?_
  refine kx_st 0 (pc' := 845) (L' := [some (.ref 1000), some (.ref 0), some (.ref 65), some (.int (nI (6 * k)))]) (st' := [.int r, .int r]) (h' := kv_wd g2 w2) rfl ?_
  refine kx_bi (t := 1492) rfl rfl (fun (h845 : r = r) => ?_) (fun (h845 : ¬ (r = r)) => ?_)
  · exact kk g2 w2 hR2
  · exact absurd rfl h845
set_option maxRecDepth 100000 in
theorem lw_c18 {Ln : Nat} {xs : Nat → Int32} {Rl : kv_S → kv_W → Nat → Prop} {k : Nat} {g : kv_S} {w : kv_W} {P : Option Value → kv_H → Prop} (hL : Ln ≤ 3072) (hk : 6 * k + 6 ≤ Ln) (hR : Rl g w k) (hp : kx_ok2 (kv_E0 Ln xs) Rl 99 189 [.int (xs (6 * k + 1))]) (kk : ∀ g2 w2, Rl g2 w2 (k + 1) → kx_V (kv_E0 Ln xs) 900 223 1492 [some (.ref 1000), some (.ref 0), some (.ref 65), some (.int (nI (6 * k)))] [] (kv_wd g2 w2) P) : kx_V (kv_E0 Ln xs) 900 223 850 [some (.ref 1000), some (.ref 0), some (.ref 65), some (.int (nI (6 * k)))] [] (kv_wd g w) P := by
  obtain ⟨r, g1, w1, g2, w2, hx, hm, hR2⟩ := hp g w k hR (by omega)
  refine kx_st 5 (pc' := 855) (L' := [some (.ref 1000), some (.ref 0), some (.ref 65), some (.int (nI (6 * k)))]) (st' := [.int ((nI (6 * k)) + 1), .ref 1000, .ref 0]) (h' := kv_wd g w) rfl ?_
  refine kx_iE (k := (6 * k + 1)) (f := xs) rfl rfl (by decide) (kx_nadd (6 * k) 1) (by omega) (by omega) ?_
  refine kx_call (z := 99) (as := [.ref 0, .int (xs (6 * k + 1))]) (rest := []) (v := some (.int r)) (h1 := kv_wd g1 w1) rfl hx ?_
  refine kx_st 0 (pc' := 859) (L' := [some (.ref 1000), some (.ref 0), some (.ref 65), some (.int (nI (6 * k)))]) (st' := [.int r]) (h' := kv_wd g1 w1) rfl ?_
  refine kx_st 5 (pc' := 864) (L' := [some (.ref 1000), some (.ref 0), some (.ref 65), some (.int (nI (6 * k)))]) (st' := [.int ((nI (6 * k)) + 1), .ref 1000, .ref 65, .int r]) (h' := kv_wd g1 w1) rfl ?_
  refine kx_iE (k := (6 * k + 1)) (f := xs) rfl rfl (by decide) (kx_nadd (6 * k) 1) (by omega) (by omega) ?_
  refine kx_call (z := 189) (as := [.ref 65, .int (xs (6 * k + 1))]) (rest := [.int r]) (v := some (.int r)) (h1 := kv_wd g2 w2) rfl hm ?_
  refine kx_st 0 (pc' := 868) (L' := [some (.ref 1000), some (.ref 0), some (.ref 65), some (.int (nI (6 * k)))]) (st' := [.int r, .int r]) (h' := kv_wd g2 w2) rfl ?_
  refine kx_bi (t := 1492) rfl rfl (fun (h868 : r = r) => ?_) (fun (h868 : ¬ (r = r)) => ?_)
  · exact kk g2 w2 hR2
  · exact absurd rfl h868
set_option maxRecDepth 100000 in
theorem lw_c19 {Ln : Nat} {xs : Nat → Int32} {Rl : kv_S → kv_W → Nat → Prop} {k : Nat} {g : kv_S} {w : kv_W} {P : Option Value → kv_H → Prop} (hL : Ln ≤ 3072) (hk : 6 * k + 6 ≤ Ln) (hR : Rl g w k) (hp : kx_ok2 (kv_E0 Ln xs) Rl 100 190 [.int (xs (6 * k + 1)), .int (xs (6 * k + 2))]) (kk : ∀ g2 w2, Rl g2 w2 (k + 1) → kx_V (kv_E0 Ln xs) 900 223 1492 [some (.ref 1000), some (.ref 0), some (.ref 65), some (.int (nI (6 * k)))] [] (kv_wd g2 w2) P) : kx_V (kv_E0 Ln xs) 900 223 873 [some (.ref 1000), some (.ref 0), some (.ref 65), some (.int (nI (6 * k)))] [] (kv_wd g w) P := by
  obtain ⟨r, g1, w1, g2, w2, hx, hm, hR2⟩ := hp g w k hR (by omega)
  refine kx_st 5 (pc' := 878) (L' := [some (.ref 1000), some (.ref 0), some (.ref 65), some (.int (nI (6 * k)))]) (st' := [.int ((nI (6 * k)) + 1), .ref 1000, .ref 0]) (h' := kv_wd g w) rfl ?_
  refine kx_iE (k := (6 * k + 1)) (f := xs) rfl rfl (by decide) (kx_nadd (6 * k) 1) (by omega) (by omega) ?_
  refine kx_st 4 (pc' := 883) (L' := [some (.ref 1000), some (.ref 0), some (.ref 65), some (.int (nI (6 * k)))]) (st' := [.int ((nI (6 * k)) + 2), .ref 1000, .int (xs (6 * k + 1)), .ref 0]) (h' := kv_wd g w) rfl ?_
  refine kx_iE (k := (6 * k + 2)) (f := xs) rfl rfl (by decide) (kx_nadd (6 * k) 2) (by omega) (by omega) ?_
  refine kx_call (z := 100) (as := [.ref 0, .int (xs (6 * k + 1)), .int (xs (6 * k + 2))]) (rest := []) (v := some (.int r)) (h1 := kv_wd g1 w1) rfl hx ?_
  refine kx_st 0 (pc' := 887) (L' := [some (.ref 1000), some (.ref 0), some (.ref 65), some (.int (nI (6 * k)))]) (st' := [.int r]) (h' := kv_wd g1 w1) rfl ?_
  refine kx_st 5 (pc' := 892) (L' := [some (.ref 1000), some (.ref 0), some (.ref 65), some (.int (nI (6 * k)))]) (st' := [.int ((nI (6 * k)) + 1), .ref 1000, .ref 65, .int r]) (h' := kv_wd g1 w1) rfl ?_
  refine kx_iE (k := (6 * k + 1)) (f := xs) rfl rfl (by decide) (kx_nadd (6 * k) 1) (by omega) (by omega) ?_
  refine kx_st 4 (pc' := 897) (L' := [some (.ref 1000), some (.ref 0), some (.ref 65), some (.int (nI (6 * k)))]) (st' := [.int ((nI (6 * k)) + 2), .ref 1000, .int (xs (6 * k + 1)), .ref 65, .int r]) (h' := kv_wd g1 w1) rfl ?_
  refine kx_iE (k := (6 * k + 2)) (f := xs) rfl rfl (by decide) (kx_nadd (6 * k) 2) (by omega) (by omega) ?_
  refine kx_call (z := 190) (as := [.ref 65, .int (xs (6 * k + 1)), .int (xs (6 * k + 2))]) (rest := [.int r]) (v := some (.int r)) (h1 := kv_wd g2 w2) rfl hm ?_
  refine kx_st 0 (pc' := 901) (L' := [some (.ref 1000), some (.ref 0), some (.ref 65), some (.int (nI (6 * k)))]) (st' := [.int r, .int r]) (h' := kv_wd g2 w2) rfl ?_
  refine kx_bi (t := 1492) rfl rfl (fun (h901 : r = r) => ?_) (fun (h901 : ¬ (r = r)) => ?_)
  · exact kk g2 w2 hR2
  · exact absurd rfl h901
set_option maxRecDepth 100000 in
theorem lw_c20 {Ln : Nat} {xs : Nat → Int32} {Rl : kv_S → kv_W → Nat → Prop} {k : Nat} {g : kv_S} {w : kv_W} {P : Option Value → kv_H → Prop} (hL : Ln ≤ 3072) (hk : 6 * k + 6 ≤ Ln) (hR : Rl g w k) (hp : kx_ok2 (kv_E0 Ln xs) Rl 101 192 [.int (xs (6 * k + 1)), .int (xs (6 * k + 2))]) (kk : ∀ g2 w2, Rl g2 w2 (k + 1) → kx_V (kv_E0 Ln xs) 900 223 1492 [some (.ref 1000), some (.ref 0), some (.ref 65), some (.int (nI (6 * k)))] [] (kv_wd g2 w2) P) : kx_V (kv_E0 Ln xs) 900 223 906 [some (.ref 1000), some (.ref 0), some (.ref 65), some (.int (nI (6 * k)))] [] (kv_wd g w) P := by
  obtain ⟨r, g1, w1, g2, w2, hx, hm, hR2⟩ := hp g w k hR (by omega)
  refine kx_st 5 (pc' := 911) (L' := [some (.ref 1000), some (.ref 0), some (.ref 65), some (.int (nI (6 * k)))]) (st' := [.int ((nI (6 * k)) + 1), .ref 1000, .ref 0]) (h' := kv_wd g w) rfl ?_
  refine kx_iE (k := (6 * k + 1)) (f := xs) rfl rfl (by decide) (kx_nadd (6 * k) 1) (by omega) (by omega) ?_
  refine kx_st 4 (pc' := 916) (L' := [some (.ref 1000), some (.ref 0), some (.ref 65), some (.int (nI (6 * k)))]) (st' := [.int ((nI (6 * k)) + 2), .ref 1000, .int (xs (6 * k + 1)), .ref 0]) (h' := kv_wd g w) rfl ?_
  refine kx_iE (k := (6 * k + 2)) (f := xs) rfl rfl (by decide) (kx_nadd (6 * k) 2) (by omega) (by omega) ?_
  refine kx_call (z := 101) (as := [.ref 0, .int (xs (6 * k + 1)), .int (xs (6 * k + 2))]) (rest := []) (v := some (.int r)) (h1 := kv_wd g1 w1) rfl hx ?_
  refine kx_st 0 (pc' := 920) (L' := [some (.ref 1000), some (.ref 0), some (.ref 65), some (.int (nI (6 * k)))]) (st' := [.int r]) (h' := kv_wd g1 w1) rfl ?_
  refine kx_st 5 (pc' := 925) (L' := [some (.ref 1000), some (.ref 0), some (.ref 65), some (.int (nI (6 * k)))]) (st' := [.int ((nI (6 * k)) + 1), .ref 1000, .ref 65, .int r]) (h' := kv_wd g1 w1) rfl ?_
  refine kx_iE (k := (6 * k + 1)) (f := xs) rfl rfl (by decide) (kx_nadd (6 * k) 1) (by omega) (by omega) ?_
  refine kx_st 4 (pc' := 930) (L' := [some (.ref 1000), some (.ref 0), some (.ref 65), some (.int (nI (6 * k)))]) (st' := [.int ((nI (6 * k)) + 2), .ref 1000, .int (xs (6 * k + 1)), .ref 65, .int r]) (h' := kv_wd g1 w1) rfl ?_
  refine kx_iE (k := (6 * k + 2)) (f := xs) rfl rfl (by decide) (kx_nadd (6 * k) 2) (by omega) (by omega) ?_
  refine kx_call (z := 192) (as := [.ref 65, .int (xs (6 * k + 1)), .int (xs (6 * k + 2))]) (rest := [.int r]) (v := some (.int r)) (h1 := kv_wd g2 w2) rfl hm ?_
  refine kx_st 0 (pc' := 934) (L' := [some (.ref 1000), some (.ref 0), some (.ref 65), some (.int (nI (6 * k)))]) (st' := [.int r, .int r]) (h' := kv_wd g2 w2) rfl ?_
  refine kx_bi (t := 1492) rfl rfl (fun (h934 : r = r) => ?_) (fun (h934 : ¬ (r = r)) => ?_)
  · exact kk g2 w2 hR2
  · exact absurd rfl h934
set_option maxRecDepth 100000 in
theorem lw_c21 {Ln : Nat} {xs : Nat → Int32} {Rl : kv_S → kv_W → Nat → Prop} {k : Nat} {g : kv_S} {w : kv_W} {P : Option Value → kv_H → Prop} (hL : Ln ≤ 3072) (hk : 6 * k + 6 ≤ Ln) (hR : Rl g w k) (hp : kx_ok2 (kv_E0 Ln xs) Rl 102 193 []) (kk : ∀ g2 w2, Rl g2 w2 (k + 1) → kx_V (kv_E0 Ln xs) 900 223 1492 [some (.ref 1000), some (.ref 0), some (.ref 65), some (.int (nI (6 * k)))] [] (kv_wd g2 w2) P) : kx_V (kv_E0 Ln xs) 900 223 939 [some (.ref 1000), some (.ref 0), some (.ref 65), some (.int (nI (6 * k)))] [] (kv_wd g w) P := by
  obtain ⟨r, g1, w1, g2, w2, hx, hm, hR2⟩ := hp g w k hR (by omega)
  refine kx_st 1 (pc' := 940) (L' := [some (.ref 1000), some (.ref 0), some (.ref 65), some (.int (nI (6 * k)))]) (st' := [.ref 0]) (h' := kv_wd g w) rfl ?_
  refine kx_call (z := 102) (as := [.ref 0]) (rest := []) (v := some (.int r)) (h1 := kv_wd g1 w1) rfl hx ?_
  refine kx_st 0 (pc' := 943) (L' := [some (.ref 1000), some (.ref 0), some (.ref 65), some (.int (nI (6 * k)))]) (st' := [.int r]) (h' := kv_wd g1 w1) rfl ?_
  refine kx_st 1 (pc' := 944) (L' := [some (.ref 1000), some (.ref 0), some (.ref 65), some (.int (nI (6 * k)))]) (st' := [.ref 65, .int r]) (h' := kv_wd g1 w1) rfl ?_
  refine kx_call (z := 193) (as := [.ref 65]) (rest := [.int r]) (v := some (.int r)) (h1 := kv_wd g2 w2) rfl hm ?_
  refine kx_st 0 (pc' := 947) (L' := [some (.ref 1000), some (.ref 0), some (.ref 65), some (.int (nI (6 * k)))]) (st' := [.int r, .int r]) (h' := kv_wd g2 w2) rfl ?_
  refine kx_bi (t := 1492) rfl rfl (fun (h947 : r = r) => ?_) (fun (h947 : ¬ (r = r)) => ?_)
  · exact kk g2 w2 hR2
  · exact absurd rfl h947
set_option maxRecDepth 100000 in
theorem lw_c22 {Ln : Nat} {xs : Nat → Int32} {Rl : kv_S → kv_W → Nat → Prop} {k : Nat} {g : kv_S} {w : kv_W} {P : Option Value → kv_H → Prop} (hL : Ln ≤ 3072) (hk : 6 * k + 6 ≤ Ln) (hR : Rl g w k) (hp : kx_ok2 (kv_E0 Ln xs) Rl 103 194 [.int (xs (6 * k + 1)), .int (xs (6 * k + 2))]) (kk : ∀ g2 w2, Rl g2 w2 (k + 1) → kx_V (kv_E0 Ln xs) 900 223 1492 [some (.ref 1000), some (.ref 0), some (.ref 65), some (.int (nI (6 * k)))] [] (kv_wd g2 w2) P) : kx_V (kv_E0 Ln xs) 900 223 952 [some (.ref 1000), some (.ref 0), some (.ref 65), some (.int (nI (6 * k)))] [] (kv_wd g w) P := by
  obtain ⟨r, g1, w1, g2, w2, hx, hm, hR2⟩ := hp g w k hR (by omega)
  refine kx_st 5 (pc' := 957) (L' := [some (.ref 1000), some (.ref 0), some (.ref 65), some (.int (nI (6 * k)))]) (st' := [.int ((nI (6 * k)) + 1), .ref 1000, .ref 0]) (h' := kv_wd g w) rfl ?_
  refine kx_iE (k := (6 * k + 1)) (f := xs) rfl rfl (by decide) (kx_nadd (6 * k) 1) (by omega) (by omega) ?_
  refine kx_st 4 (pc' := 962) (L' := [some (.ref 1000), some (.ref 0), some (.ref 65), some (.int (nI (6 * k)))]) (st' := [.int ((nI (6 * k)) + 2), .ref 1000, .int (xs (6 * k + 1)), .ref 0]) (h' := kv_wd g w) rfl ?_
  refine kx_iE (k := (6 * k + 2)) (f := xs) rfl rfl (by decide) (kx_nadd (6 * k) 2) (by omega) (by omega) ?_
  refine kx_call (z := 103) (as := [.ref 0, .int (xs (6 * k + 1)), .int (xs (6 * k + 2))]) (rest := []) (v := some (.int r)) (h1 := kv_wd g1 w1) rfl hx ?_
  refine kx_st 0 (pc' := 966) (L' := [some (.ref 1000), some (.ref 0), some (.ref 65), some (.int (nI (6 * k)))]) (st' := [.int r]) (h' := kv_wd g1 w1) rfl ?_
  refine kx_st 5 (pc' := 971) (L' := [some (.ref 1000), some (.ref 0), some (.ref 65), some (.int (nI (6 * k)))]) (st' := [.int ((nI (6 * k)) + 1), .ref 1000, .ref 65, .int r]) (h' := kv_wd g1 w1) rfl ?_
  refine kx_iE (k := (6 * k + 1)) (f := xs) rfl rfl (by decide) (kx_nadd (6 * k) 1) (by omega) (by omega) ?_
  refine kx_st 4 (pc' := 976) (L' := [some (.ref 1000), some (.ref 0), some (.ref 65), some (.int (nI (6 * k)))]) (st' := [.int ((nI (6 * k)) + 2), .ref 1000, .int (xs (6 * k + 1)), .ref 65, .int r]) (h' := kv_wd g1 w1) rfl ?_
  refine kx_iE (k := (6 * k + 2)) (f := xs) rfl rfl (by decide) (kx_nadd (6 * k) 2) (by omega) (by omega) ?_
  refine kx_call (z := 194) (as := [.ref 65, .int (xs (6 * k + 1)), .int (xs (6 * k + 2))]) (rest := [.int r]) (v := some (.int r)) (h1 := kv_wd g2 w2) rfl hm ?_
  refine kx_st 0 (pc' := 980) (L' := [some (.ref 1000), some (.ref 0), some (.ref 65), some (.int (nI (6 * k)))]) (st' := [.int r, .int r]) (h' := kv_wd g2 w2) rfl ?_
  refine kx_bi (t := 1492) rfl rfl (fun (h980 : r = r) => ?_) (fun (h980 : ¬ (r = r)) => ?_)
  · exact kk g2 w2 hR2
  · exact absurd rfl h980
set_option maxRecDepth 100000 in
theorem lw_c23 {Ln : Nat} {xs : Nat → Int32} {Rl : kv_S → kv_W → Nat → Prop} {k : Nat} {g : kv_S} {w : kv_W} {P : Option Value → kv_H → Prop} (hL : Ln ≤ 3072) (hk : 6 * k + 6 ≤ Ln) (hR : Rl g w k) (hp : kx_ok2 (kv_E0 Ln xs) Rl 104 195 [.int (xs (6 * k + 1))]) (kk : ∀ g2 w2, Rl g2 w2 (k + 1) → kx_V (kv_E0 Ln xs) 900 223 1492 [some (.ref 1000), some (.ref 0), some (.ref 65), some (.int (nI (6 * k)))] [] (kv_wd g2 w2) P) : kx_V (kv_E0 Ln xs) 900 223 985 [some (.ref 1000), some (.ref 0), some (.ref 65), some (.int (nI (6 * k)))] [] (kv_wd g w) P := by
  obtain ⟨r, g1, w1, g2, w2, hx, hm, hR2⟩ := hp g w k hR (by omega)
  refine kx_st 5 (pc' := 990) (L' := [some (.ref 1000), some (.ref 0), some (.ref 65), some (.int (nI (6 * k)))]) (st' := [.int ((nI (6 * k)) + 1), .ref 1000, .ref 0]) (h' := kv_wd g w) rfl ?_
  refine kx_iE (k := (6 * k + 1)) (f := xs) rfl rfl (by decide) (kx_nadd (6 * k) 1) (by omega) (by omega) ?_
  refine kx_call (z := 104) (as := [.ref 0, .int (xs (6 * k + 1))]) (rest := []) (v := some (.int r)) (h1 := kv_wd g1 w1) rfl hx ?_
  refine kx_st 0 (pc' := 994) (L' := [some (.ref 1000), some (.ref 0), some (.ref 65), some (.int (nI (6 * k)))]) (st' := [.int r]) (h' := kv_wd g1 w1) rfl ?_
  refine kx_st 5 (pc' := 999) (L' := [some (.ref 1000), some (.ref 0), some (.ref 65), some (.int (nI (6 * k)))]) (st' := [.int ((nI (6 * k)) + 1), .ref 1000, .ref 65, .int r]) (h' := kv_wd g1 w1) rfl ?_
  refine kx_iE (k := (6 * k + 1)) (f := xs) rfl rfl (by decide) (kx_nadd (6 * k) 1) (by omega) (by omega) ?_
  refine kx_call (z := 195) (as := [.ref 65, .int (xs (6 * k + 1))]) (rest := [.int r]) (v := some (.int r)) (h1 := kv_wd g2 w2) rfl hm ?_
  refine kx_st 0 (pc' := 1003) (L' := [some (.ref 1000), some (.ref 0), some (.ref 65), some (.int (nI (6 * k)))]) (st' := [.int r, .int r]) (h' := kv_wd g2 w2) rfl ?_
  refine kx_bi (t := 1492) rfl rfl (fun (h1003 : r = r) => ?_) (fun (h1003 : ¬ (r = r)) => ?_)
  · exact kk g2 w2 hR2
  · exact absurd rfl h1003
set_option maxRecDepth 100000 in
theorem lw_c24 {Ln : Nat} {xs : Nat → Int32} {Rl : kv_S → kv_W → Nat → Prop} {k : Nat} {g : kv_S} {w : kv_W} {P : Option Value → kv_H → Prop} (hL : Ln ≤ 3072) (hk : 6 * k + 6 ≤ Ln) (hR : Rl g w k) (hp : kx_ok2 (kv_E0 Ln xs) Rl 105 196 []) (kk : ∀ g2 w2, Rl g2 w2 (k + 1) → kx_V (kv_E0 Ln xs) 900 223 1492 [some (.ref 1000), some (.ref 0), some (.ref 65), some (.int (nI (6 * k)))] [] (kv_wd g2 w2) P) : kx_V (kv_E0 Ln xs) 900 223 1008 [some (.ref 1000), some (.ref 0), some (.ref 65), some (.int (nI (6 * k)))] [] (kv_wd g w) P := by
  obtain ⟨r, g1, w1, g2, w2, hx, hm, hR2⟩ := hp g w k hR (by omega)
  refine kx_st 1 (pc' := 1009) (L' := [some (.ref 1000), some (.ref 0), some (.ref 65), some (.int (nI (6 * k)))]) (st' := [.ref 0]) (h' := kv_wd g w) rfl ?_
  refine kx_call (z := 105) (as := [.ref 0]) (rest := []) (v := some (.int r)) (h1 := kv_wd g1 w1) rfl hx ?_
  refine kx_st 0 (pc' := 1012) (L' := [some (.ref 1000), some (.ref 0), some (.ref 65), some (.int (nI (6 * k)))]) (st' := [.int r]) (h' := kv_wd g1 w1) rfl ?_
  refine kx_st 1 (pc' := 1013) (L' := [some (.ref 1000), some (.ref 0), some (.ref 65), some (.int (nI (6 * k)))]) (st' := [.ref 65, .int r]) (h' := kv_wd g1 w1) rfl ?_
  refine kx_call (z := 196) (as := [.ref 65]) (rest := [.int r]) (v := some (.int r)) (h1 := kv_wd g2 w2) rfl hm ?_
  refine kx_st 0 (pc' := 1016) (L' := [some (.ref 1000), some (.ref 0), some (.ref 65), some (.int (nI (6 * k)))]) (st' := [.int r, .int r]) (h' := kv_wd g2 w2) rfl ?_
  refine kx_bi (t := 1492) rfl rfl (fun (h1016 : r = r) => ?_) (fun (h1016 : ¬ (r = r)) => ?_)
  · exact kk g2 w2 hR2
  · exact absurd rfl h1016
set_option maxRecDepth 100000 in
theorem lw_c25 {Ln : Nat} {xs : Nat → Int32} {Rl : kv_S → kv_W → Nat → Prop} {k : Nat} {g : kv_S} {w : kv_W} {P : Option Value → kv_H → Prop} (hL : Ln ≤ 3072) (hk : 6 * k + 6 ≤ Ln) (hR : Rl g w k) (hp : kx_ok2 (kv_E0 Ln xs) Rl 106 197 [.int (xs (6 * k + 1))]) (kk : ∀ g2 w2, Rl g2 w2 (k + 1) → kx_V (kv_E0 Ln xs) 900 223 1492 [some (.ref 1000), some (.ref 0), some (.ref 65), some (.int (nI (6 * k)))] [] (kv_wd g2 w2) P) : kx_V (kv_E0 Ln xs) 900 223 1021 [some (.ref 1000), some (.ref 0), some (.ref 65), some (.int (nI (6 * k)))] [] (kv_wd g w) P := by
  obtain ⟨r, g1, w1, g2, w2, hx, hm, hR2⟩ := hp g w k hR (by omega)
  refine kx_st 5 (pc' := 1026) (L' := [some (.ref 1000), some (.ref 0), some (.ref 65), some (.int (nI (6 * k)))]) (st' := [.int ((nI (6 * k)) + 1), .ref 1000, .ref 0]) (h' := kv_wd g w) rfl ?_
  refine kx_iE (k := (6 * k + 1)) (f := xs) rfl rfl (by decide) (kx_nadd (6 * k) 1) (by omega) (by omega) ?_
  refine kx_call (z := 106) (as := [.ref 0, .int (xs (6 * k + 1))]) (rest := []) (v := some (.int r)) (h1 := kv_wd g1 w1) rfl hx ?_
  refine kx_st 0 (pc' := 1030) (L' := [some (.ref 1000), some (.ref 0), some (.ref 65), some (.int (nI (6 * k)))]) (st' := [.int r]) (h' := kv_wd g1 w1) rfl ?_
  refine kx_st 5 (pc' := 1035) (L' := [some (.ref 1000), some (.ref 0), some (.ref 65), some (.int (nI (6 * k)))]) (st' := [.int ((nI (6 * k)) + 1), .ref 1000, .ref 65, .int r]) (h' := kv_wd g1 w1) rfl ?_
  refine kx_iE (k := (6 * k + 1)) (f := xs) rfl rfl (by decide) (kx_nadd (6 * k) 1) (by omega) (by omega) ?_
  refine kx_call (z := 197) (as := [.ref 65, .int (xs (6 * k + 1))]) (rest := [.int r]) (v := some (.int r)) (h1 := kv_wd g2 w2) rfl hm ?_
  refine kx_st 0 (pc' := 1039) (L' := [some (.ref 1000), some (.ref 0), some (.ref 65), some (.int (nI (6 * k)))]) (st' := [.int r, .int r]) (h' := kv_wd g2 w2) rfl ?_
  refine kx_bi (t := 1492) rfl rfl (fun (h1039 : r = r) => ?_) (fun (h1039 : ¬ (r = r)) => ?_)
  · exact kk g2 w2 hR2
  · exact absurd rfl h1039
set_option maxRecDepth 100000 in
theorem lw_c26 {Ln : Nat} {xs : Nat → Int32} {Rl : kv_S → kv_W → Nat → Prop} {k : Nat} {g : kv_S} {w : kv_W} {P : Option Value → kv_H → Prop} (hL : Ln ≤ 3072) (hk : 6 * k + 6 ≤ Ln) (hR : Rl g w k) (hp : kx_ok2 (kv_E0 Ln xs) Rl 107 199 [.int (xs (6 * k + 1)), .int (xs (6 * k + 2))]) (kk : ∀ g2 w2, Rl g2 w2 (k + 1) → kx_V (kv_E0 Ln xs) 900 223 1492 [some (.ref 1000), some (.ref 0), some (.ref 65), some (.int (nI (6 * k)))] [] (kv_wd g2 w2) P) : kx_V (kv_E0 Ln xs) 900 223 1044 [some (.ref 1000), some (.ref 0), some (.ref 65), some (.int (nI (6 * k)))] [] (kv_wd g w) P := by
  obtain ⟨r, g1, w1, g2, w2, hx, hm, hR2⟩ := hp g w k hR (by omega)
  refine kx_st 5 (pc' := 1049) (L' := [some (.ref 1000), some (.ref 0), some (.ref 65), some (.int (nI (6 * k)))]) (st' := [.int ((nI (6 * k)) + 1), .ref 1000, .ref 0]) (h' := kv_wd g w) rfl ?_
  refine kx_iE (k := (6 * k + 1)) (f := xs) rfl rfl (by decide) (kx_nadd (6 * k) 1) (by omega) (by omega) ?_
  refine kx_st 4 (pc' := 1054) (L' := [some (.ref 1000), some (.ref 0), some (.ref 65), some (.int (nI (6 * k)))]) (st' := [.int ((nI (6 * k)) + 2), .ref 1000, .int (xs (6 * k + 1)), .ref 0]) (h' := kv_wd g w) rfl ?_
  refine kx_iE (k := (6 * k + 2)) (f := xs) rfl rfl (by decide) (kx_nadd (6 * k) 2) (by omega) (by omega) ?_
  refine kx_call (z := 107) (as := [.ref 0, .int (xs (6 * k + 1)), .int (xs (6 * k + 2))]) (rest := []) (v := some (.int r)) (h1 := kv_wd g1 w1) rfl hx ?_
  refine kx_st 0 (pc' := 1058) (L' := [some (.ref 1000), some (.ref 0), some (.ref 65), some (.int (nI (6 * k)))]) (st' := [.int r]) (h' := kv_wd g1 w1) rfl ?_
  refine kx_st 5 (pc' := 1063) (L' := [some (.ref 1000), some (.ref 0), some (.ref 65), some (.int (nI (6 * k)))]) (st' := [.int ((nI (6 * k)) + 1), .ref 1000, .ref 65, .int r]) (h' := kv_wd g1 w1) rfl ?_
  refine kx_iE (k := (6 * k + 1)) (f := xs) rfl rfl (by decide) (kx_nadd (6 * k) 1) (by omega) (by omega) ?_
  refine kx_st 4 (pc' := 1068) (L' := [some (.ref 1000), some (.ref 0), some (.ref 65), some (.int (nI (6 * k)))]) (st' := [.int ((nI (6 * k)) + 2), .ref 1000, .int (xs (6 * k + 1)), .ref 65, .int r]) (h' := kv_wd g1 w1) rfl ?_
  refine kx_iE (k := (6 * k + 2)) (f := xs) rfl rfl (by decide) (kx_nadd (6 * k) 2) (by omega) (by omega) ?_
  refine kx_call (z := 199) (as := [.ref 65, .int (xs (6 * k + 1)), .int (xs (6 * k + 2))]) (rest := [.int r]) (v := some (.int r)) (h1 := kv_wd g2 w2) rfl hm ?_
  refine kx_st 0 (pc' := 1072) (L' := [some (.ref 1000), some (.ref 0), some (.ref 65), some (.int (nI (6 * k)))]) (st' := [.int r, .int r]) (h' := kv_wd g2 w2) rfl ?_
  refine kx_bi (t := 1492) rfl rfl (fun (h1072 : r = r) => ?_) (fun (h1072 : ¬ (r = r)) => ?_)
  · exact kk g2 w2 hR2
  · exact absurd rfl h1072
set_option maxRecDepth 100000 in
theorem lw_c27 {Ln : Nat} {xs : Nat → Int32} {Rl : kv_S → kv_W → Nat → Prop} {k : Nat} {g : kv_S} {w : kv_W} {P : Option Value → kv_H → Prop} (hL : Ln ≤ 3072) (hk : 6 * k + 6 ≤ Ln) (hR : Rl g w k) (hp : kx_ok2 (kv_E0 Ln xs) Rl 108 201 [.int (xs (6 * k + 1))]) (kk : ∀ g2 w2, Rl g2 w2 (k + 1) → kx_V (kv_E0 Ln xs) 900 223 1492 [some (.ref 1000), some (.ref 0), some (.ref 65), some (.int (nI (6 * k)))] [] (kv_wd g2 w2) P) : kx_V (kv_E0 Ln xs) 900 223 1077 [some (.ref 1000), some (.ref 0), some (.ref 65), some (.int (nI (6 * k)))] [] (kv_wd g w) P := by
  obtain ⟨r, g1, w1, g2, w2, hx, hm, hR2⟩ := hp g w k hR (by omega)
  refine kx_st 5 (pc' := 1082) (L' := [some (.ref 1000), some (.ref 0), some (.ref 65), some (.int (nI (6 * k)))]) (st' := [.int ((nI (6 * k)) + 1), .ref 1000, .ref 0]) (h' := kv_wd g w) rfl ?_
  refine kx_iE (k := (6 * k + 1)) (f := xs) rfl rfl (by decide) (kx_nadd (6 * k) 1) (by omega) (by omega) ?_
  refine kx_call (z := 108) (as := [.ref 0, .int (xs (6 * k + 1))]) (rest := []) (v := some (.int r)) (h1 := kv_wd g1 w1) rfl hx ?_
  refine kx_st 0 (pc' := 1086) (L' := [some (.ref 1000), some (.ref 0), some (.ref 65), some (.int (nI (6 * k)))]) (st' := [.int r]) (h' := kv_wd g1 w1) rfl ?_
  refine kx_st 5 (pc' := 1091) (L' := [some (.ref 1000), some (.ref 0), some (.ref 65), some (.int (nI (6 * k)))]) (st' := [.int ((nI (6 * k)) + 1), .ref 1000, .ref 65, .int r]) (h' := kv_wd g1 w1) rfl ?_
  refine kx_iE (k := (6 * k + 1)) (f := xs) rfl rfl (by decide) (kx_nadd (6 * k) 1) (by omega) (by omega) ?_
  refine kx_call (z := 201) (as := [.ref 65, .int (xs (6 * k + 1))]) (rest := [.int r]) (v := some (.int r)) (h1 := kv_wd g2 w2) rfl hm ?_
  refine kx_st 0 (pc' := 1095) (L' := [some (.ref 1000), some (.ref 0), some (.ref 65), some (.int (nI (6 * k)))]) (st' := [.int r, .int r]) (h' := kv_wd g2 w2) rfl ?_
  refine kx_bi (t := 1492) rfl rfl (fun (h1095 : r = r) => ?_) (fun (h1095 : ¬ (r = r)) => ?_)
  · exact kk g2 w2 hR2
  · exact absurd rfl h1095
set_option maxRecDepth 100000 in
theorem lw_c28 {Ln : Nat} {xs : Nat → Int32} {Rl : kv_S → kv_W → Nat → Prop} {k : Nat} {g : kv_S} {w : kv_W} {P : Option Value → kv_H → Prop} (hL : Ln ≤ 3072) (hk : 6 * k + 6 ≤ Ln) (hR : Rl g w k) (hp : kx_ok2 (kv_E0 Ln xs) Rl 109 202 [.int (xs (6 * k + 1))]) (kk : ∀ g2 w2, Rl g2 w2 (k + 1) → kx_V (kv_E0 Ln xs) 900 223 1492 [some (.ref 1000), some (.ref 0), some (.ref 65), some (.int (nI (6 * k)))] [] (kv_wd g2 w2) P) : kx_V (kv_E0 Ln xs) 900 223 1100 [some (.ref 1000), some (.ref 0), some (.ref 65), some (.int (nI (6 * k)))] [] (kv_wd g w) P := by
  obtain ⟨r, g1, w1, g2, w2, hx, hm, hR2⟩ := hp g w k hR (by omega)
  refine kx_st 5 (pc' := 1105) (L' := [some (.ref 1000), some (.ref 0), some (.ref 65), some (.int (nI (6 * k)))]) (st' := [.int ((nI (6 * k)) + 1), .ref 1000, .ref 0]) (h' := kv_wd g w) rfl ?_
  refine kx_iE (k := (6 * k + 1)) (f := xs) rfl rfl (by decide) (kx_nadd (6 * k) 1) (by omega) (by omega) ?_
  refine kx_call (z := 109) (as := [.ref 0, .int (xs (6 * k + 1))]) (rest := []) (v := some (.int r)) (h1 := kv_wd g1 w1) rfl hx ?_
  refine kx_st 0 (pc' := 1109) (L' := [some (.ref 1000), some (.ref 0), some (.ref 65), some (.int (nI (6 * k)))]) (st' := [.int r]) (h' := kv_wd g1 w1) rfl ?_
  refine kx_st 5 (pc' := 1114) (L' := [some (.ref 1000), some (.ref 0), some (.ref 65), some (.int (nI (6 * k)))]) (st' := [.int ((nI (6 * k)) + 1), .ref 1000, .ref 65, .int r]) (h' := kv_wd g1 w1) rfl ?_
  refine kx_iE (k := (6 * k + 1)) (f := xs) rfl rfl (by decide) (kx_nadd (6 * k) 1) (by omega) (by omega) ?_
  refine kx_call (z := 202) (as := [.ref 65, .int (xs (6 * k + 1))]) (rest := [.int r]) (v := some (.int r)) (h1 := kv_wd g2 w2) rfl hm ?_
  refine kx_st 0 (pc' := 1118) (L' := [some (.ref 1000), some (.ref 0), some (.ref 65), some (.int (nI (6 * k)))]) (st' := [.int r, .int r]) (h' := kv_wd g2 w2) rfl ?_
  refine kx_bi (t := 1492) rfl rfl (fun (h1118 : r = r) => ?_) (fun (h1118 : ¬ (r = r)) => ?_)
  · exact kk g2 w2 hR2
  · exact absurd rfl h1118
set_option maxRecDepth 100000 in
theorem lw_c29 {Ln : Nat} {xs : Nat → Int32} {Rl : kv_S → kv_W → Nat → Prop} {k : Nat} {g : kv_S} {w : kv_W} {P : Option Value → kv_H → Prop} (hL : Ln ≤ 3072) (hk : 6 * k + 6 ≤ Ln) (hR : Rl g w k) (hp : kx_ok2 (kv_E0 Ln xs) Rl 110 208 [.int (xs (6 * k + 1)), .int (xs (6 * k + 2)), .int (xs (6 * k + 3))]) (kk : ∀ g2 w2, Rl g2 w2 (k + 1) → kx_V (kv_E0 Ln xs) 900 223 1492 [some (.ref 1000), some (.ref 0), some (.ref 65), some (.int (nI (6 * k)))] [] (kv_wd g2 w2) P) : kx_V (kv_E0 Ln xs) 900 223 1123 [some (.ref 1000), some (.ref 0), some (.ref 65), some (.int (nI (6 * k)))] [] (kv_wd g w) P := by
  obtain ⟨r, g1, w1, g2, w2, hx, hm, hR2⟩ := hp g w k hR (by omega)
  refine kx_st 5 (pc' := 1128) (L' := [some (.ref 1000), some (.ref 0), some (.ref 65), some (.int (nI (6 * k)))]) (st' := [.int ((nI (6 * k)) + 1), .ref 1000, .ref 0]) (h' := kv_wd g w) rfl ?_
  refine kx_iE (k := (6 * k + 1)) (f := xs) rfl rfl (by decide) (kx_nadd (6 * k) 1) (by omega) (by omega) ?_
  refine kx_st 4 (pc' := 1133) (L' := [some (.ref 1000), some (.ref 0), some (.ref 65), some (.int (nI (6 * k)))]) (st' := [.int ((nI (6 * k)) + 2), .ref 1000, .int (xs (6 * k + 1)), .ref 0]) (h' := kv_wd g w) rfl ?_
  refine kx_iE (k := (6 * k + 2)) (f := xs) rfl rfl (by decide) (kx_nadd (6 * k) 2) (by omega) (by omega) ?_
  refine kx_st 4 (pc' := 1138) (L' := [some (.ref 1000), some (.ref 0), some (.ref 65), some (.int (nI (6 * k)))]) (st' := [.int ((nI (6 * k)) + 3), .ref 1000, .int (xs (6 * k + 2)), .int (xs (6 * k + 1)), .ref 0]) (h' := kv_wd g w) rfl ?_
  refine kx_iE (k := (6 * k + 3)) (f := xs) rfl rfl (by decide) (kx_nadd (6 * k) 3) (by omega) (by omega) ?_
  refine kx_call (z := 110) (as := [.ref 0, .int (xs (6 * k + 1)), .int (xs (6 * k + 2)), .int (xs (6 * k + 3))]) (rest := []) (v := some (.int r)) (h1 := kv_wd g1 w1) rfl hx ?_
  refine kx_st 0 (pc' := 1142) (L' := [some (.ref 1000), some (.ref 0), some (.ref 65), some (.int (nI (6 * k)))]) (st' := [.int r]) (h' := kv_wd g1 w1) rfl ?_
  refine kx_st 5 (pc' := 1147) (L' := [some (.ref 1000), some (.ref 0), some (.ref 65), some (.int (nI (6 * k)))]) (st' := [.int ((nI (6 * k)) + 1), .ref 1000, .ref 65, .int r]) (h' := kv_wd g1 w1) rfl ?_
  refine kx_iE (k := (6 * k + 1)) (f := xs) rfl rfl (by decide) (kx_nadd (6 * k) 1) (by omega) (by omega) ?_
  refine kx_st 4 (pc' := 1152) (L' := [some (.ref 1000), some (.ref 0), some (.ref 65), some (.int (nI (6 * k)))]) (st' := [.int ((nI (6 * k)) + 2), .ref 1000, .int (xs (6 * k + 1)), .ref 65, .int r]) (h' := kv_wd g1 w1) rfl ?_
  refine kx_iE (k := (6 * k + 2)) (f := xs) rfl rfl (by decide) (kx_nadd (6 * k) 2) (by omega) (by omega) ?_
  refine kx_st 4 (pc' := 1157) (L' := [some (.ref 1000), some (.ref 0), some (.ref 65), some (.int (nI (6 * k)))]) (st' := [.int ((nI (6 * k)) + 3), .ref 1000, .int (xs (6 * k + 2)), .int (xs (6 * k + 1)), .ref 65, .int r]) (h' := kv_wd g1 w1) rfl ?_
  refine kx_iE (k := (6 * k + 3)) (f := xs) rfl rfl (by decide) (kx_nadd (6 * k) 3) (by omega) (by omega) ?_
  refine kx_call (z := 208) (as := [.ref 65, .int (xs (6 * k + 1)), .int (xs (6 * k + 2)), .int (xs (6 * k + 3))]) (rest := [.int r]) (v := some (.int r)) (h1 := kv_wd g2 w2) rfl hm ?_
  refine kx_st 0 (pc' := 1161) (L' := [some (.ref 1000), some (.ref 0), some (.ref 65), some (.int (nI (6 * k)))]) (st' := [.int r, .int r]) (h' := kv_wd g2 w2) rfl ?_
  refine kx_bi (t := 1492) rfl rfl (fun (h1161 : r = r) => ?_) (fun (h1161 : ¬ (r = r)) => ?_)
  · exact kk g2 w2 hR2
  · exact absurd rfl h1161
set_option maxRecDepth 100000 in
theorem lw_c30 {Ln : Nat} {xs : Nat → Int32} {Rl : kv_S → kv_W → Nat → Prop} {k : Nat} {g : kv_S} {w : kv_W} {P : Option Value → kv_H → Prop} (hL : Ln ≤ 3072) (hk : 6 * k + 6 ≤ Ln) (hR : Rl g w k) (hp : kx_ok2 (kv_E0 Ln xs) Rl 111 209 [.int (xs (6 * k + 1))]) (kk : ∀ g2 w2, Rl g2 w2 (k + 1) → kx_V (kv_E0 Ln xs) 900 223 1492 [some (.ref 1000), some (.ref 0), some (.ref 65), some (.int (nI (6 * k)))] [] (kv_wd g2 w2) P) : kx_V (kv_E0 Ln xs) 900 223 1166 [some (.ref 1000), some (.ref 0), some (.ref 65), some (.int (nI (6 * k)))] [] (kv_wd g w) P := by
  obtain ⟨r, g1, w1, g2, w2, hx, hm, hR2⟩ := hp g w k hR (by omega)
  refine kx_st 5 (pc' := 1171) (L' := [some (.ref 1000), some (.ref 0), some (.ref 65), some (.int (nI (6 * k)))]) (st' := [.int ((nI (6 * k)) + 1), .ref 1000, .ref 0]) (h' := kv_wd g w) rfl ?_
  refine kx_iE (k := (6 * k + 1)) (f := xs) rfl rfl (by decide) (kx_nadd (6 * k) 1) (by omega) (by omega) ?_
  refine kx_call (z := 111) (as := [.ref 0, .int (xs (6 * k + 1))]) (rest := []) (v := some (.int r)) (h1 := kv_wd g1 w1) rfl hx ?_
  refine kx_st 0 (pc' := 1175) (L' := [some (.ref 1000), some (.ref 0), some (.ref 65), some (.int (nI (6 * k)))]) (st' := [.int r]) (h' := kv_wd g1 w1) rfl ?_
  refine kx_st 5 (pc' := 1180) (L' := [some (.ref 1000), some (.ref 0), some (.ref 65), some (.int (nI (6 * k)))]) (st' := [.int ((nI (6 * k)) + 1), .ref 1000, .ref 65, .int r]) (h' := kv_wd g1 w1) rfl ?_
  refine kx_iE (k := (6 * k + 1)) (f := xs) rfl rfl (by decide) (kx_nadd (6 * k) 1) (by omega) (by omega) ?_
  refine kx_call (z := 209) (as := [.ref 65, .int (xs (6 * k + 1))]) (rest := [.int r]) (v := some (.int r)) (h1 := kv_wd g2 w2) rfl hm ?_
  refine kx_st 0 (pc' := 1184) (L' := [some (.ref 1000), some (.ref 0), some (.ref 65), some (.int (nI (6 * k)))]) (st' := [.int r, .int r]) (h' := kv_wd g2 w2) rfl ?_
  refine kx_bi (t := 1492) rfl rfl (fun (h1184 : r = r) => ?_) (fun (h1184 : ¬ (r = r)) => ?_)
  · exact kk g2 w2 hR2
  · exact absurd rfl h1184
set_option maxRecDepth 100000 in
theorem lw_c31 {Ln : Nat} {xs : Nat → Int32} {Rl : kv_S → kv_W → Nat → Prop} {k : Nat} {g : kv_S} {w : kv_W} {P : Option Value → kv_H → Prop} (hL : Ln ≤ 3072) (hk : 6 * k + 6 ≤ Ln) (hR : Rl g w k) (hp : kx_ok2 (kv_E0 Ln xs) Rl 112 211 [.int (xs (6 * k + 1)), .int (xs (6 * k + 2)), .int (xs (6 * k + 3))]) (kk : ∀ g2 w2, Rl g2 w2 (k + 1) → kx_V (kv_E0 Ln xs) 900 223 1492 [some (.ref 1000), some (.ref 0), some (.ref 65), some (.int (nI (6 * k)))] [] (kv_wd g2 w2) P) : kx_V (kv_E0 Ln xs) 900 223 1189 [some (.ref 1000), some (.ref 0), some (.ref 65), some (.int (nI (6 * k)))] [] (kv_wd g w) P := by
  obtain ⟨r, g1, w1, g2, w2, hx, hm, hR2⟩ := hp g w k hR (by omega)
  refine kx_st 5 (pc' := 1194) (L' := [some (.ref 1000), some (.ref 0), some (.ref 65), some (.int (nI (6 * k)))]) (st' := [.int ((nI (6 * k)) + 1), .ref 1000, .ref 0]) (h' := kv_wd g w) rfl ?_
  refine kx_iE (k := (6 * k + 1)) (f := xs) rfl rfl (by decide) (kx_nadd (6 * k) 1) (by omega) (by omega) ?_
  refine kx_st 4 (pc' := 1199) (L' := [some (.ref 1000), some (.ref 0), some (.ref 65), some (.int (nI (6 * k)))]) (st' := [.int ((nI (6 * k)) + 2), .ref 1000, .int (xs (6 * k + 1)), .ref 0]) (h' := kv_wd g w) rfl ?_
  refine kx_iE (k := (6 * k + 2)) (f := xs) rfl rfl (by decide) (kx_nadd (6 * k) 2) (by omega) (by omega) ?_
  refine kx_st 4 (pc' := 1204) (L' := [some (.ref 1000), some (.ref 0), some (.ref 65), some (.int (nI (6 * k)))]) (st' := [.int ((nI (6 * k)) + 3), .ref 1000, .int (xs (6 * k + 2)), .int (xs (6 * k + 1)), .ref 0]) (h' := kv_wd g w) rfl ?_
  refine kx_iE (k := (6 * k + 3)) (f := xs) rfl rfl (by decide) (kx_nadd (6 * k) 3) (by omega) (by omega) ?_
  refine kx_call (z := 112) (as := [.ref 0, .int (xs (6 * k + 1)), .int (xs (6 * k + 2)), .int (xs (6 * k + 3))]) (rest := []) (v := some (.int r)) (h1 := kv_wd g1 w1) rfl hx ?_
  refine kx_st 0 (pc' := 1208) (L' := [some (.ref 1000), some (.ref 0), some (.ref 65), some (.int (nI (6 * k)))]) (st' := [.int r]) (h' := kv_wd g1 w1) rfl ?_
  refine kx_st 5 (pc' := 1213) (L' := [some (.ref 1000), some (.ref 0), some (.ref 65), some (.int (nI (6 * k)))]) (st' := [.int ((nI (6 * k)) + 1), .ref 1000, .ref 65, .int r]) (h' := kv_wd g1 w1) rfl ?_
  refine kx_iE (k := (6 * k + 1)) (f := xs) rfl rfl (by decide) (kx_nadd (6 * k) 1) (by omega) (by omega) ?_
  refine kx_st 4 (pc' := 1218) (L' := [some (.ref 1000), some (.ref 0), some (.ref 65), some (.int (nI (6 * k)))]) (st' := [.int ((nI (6 * k)) + 2), .ref 1000, .int (xs (6 * k + 1)), .ref 65, .int r]) (h' := kv_wd g1 w1) rfl ?_
  refine kx_iE (k := (6 * k + 2)) (f := xs) rfl rfl (by decide) (kx_nadd (6 * k) 2) (by omega) (by omega) ?_
  refine kx_st 4 (pc' := 1223) (L' := [some (.ref 1000), some (.ref 0), some (.ref 65), some (.int (nI (6 * k)))]) (st' := [.int ((nI (6 * k)) + 3), .ref 1000, .int (xs (6 * k + 2)), .int (xs (6 * k + 1)), .ref 65, .int r]) (h' := kv_wd g1 w1) rfl ?_
  refine kx_iE (k := (6 * k + 3)) (f := xs) rfl rfl (by decide) (kx_nadd (6 * k) 3) (by omega) (by omega) ?_
  refine kx_call (z := 211) (as := [.ref 65, .int (xs (6 * k + 1)), .int (xs (6 * k + 2)), .int (xs (6 * k + 3))]) (rest := [.int r]) (v := some (.int r)) (h1 := kv_wd g2 w2) rfl hm ?_
  refine kx_st 0 (pc' := 1227) (L' := [some (.ref 1000), some (.ref 0), some (.ref 65), some (.int (nI (6 * k)))]) (st' := [.int r, .int r]) (h' := kv_wd g2 w2) rfl ?_
  refine kx_bi (t := 1492) rfl rfl (fun (h1227 : r = r) => ?_) (fun (h1227 : ¬ (r = r)) => ?_)
  · exact kk g2 w2 hR2
  · exact absurd rfl h1227
set_option maxRecDepth 100000 in
theorem lw_c32 {Ln : Nat} {xs : Nat → Int32} {Rl : kv_S → kv_W → Nat → Prop} {k : Nat} {g : kv_S} {w : kv_W} {P : Option Value → kv_H → Prop} (hL : Ln ≤ 3072) (hk : 6 * k + 6 ≤ Ln) (hR : Rl g w k) (hp : kx_ok2 (kv_E0 Ln xs) Rl 113 212 [.int (xs (6 * k + 1)), .int (xs (6 * k + 2)), .int (xs (6 * k + 3))]) (kk : ∀ g2 w2, Rl g2 w2 (k + 1) → kx_V (kv_E0 Ln xs) 900 223 1492 [some (.ref 1000), some (.ref 0), some (.ref 65), some (.int (nI (6 * k)))] [] (kv_wd g2 w2) P) : kx_V (kv_E0 Ln xs) 900 223 1232 [some (.ref 1000), some (.ref 0), some (.ref 65), some (.int (nI (6 * k)))] [] (kv_wd g w) P := by
  obtain ⟨r, g1, w1, g2, w2, hx, hm, hR2⟩ := hp g w k hR (by omega)
  refine kx_st 5 (pc' := 1237) (L' := [some (.ref 1000), some (.ref 0), some (.ref 65), some (.int (nI (6 * k)))]) (st' := [.int ((nI (6 * k)) + 1), .ref 1000, .ref 0]) (h' := kv_wd g w) rfl ?_
  refine kx_iE (k := (6 * k + 1)) (f := xs) rfl rfl (by decide) (kx_nadd (6 * k) 1) (by omega) (by omega) ?_
  refine kx_st 4 (pc' := 1242) (L' := [some (.ref 1000), some (.ref 0), some (.ref 65), some (.int (nI (6 * k)))]) (st' := [.int ((nI (6 * k)) + 2), .ref 1000, .int (xs (6 * k + 1)), .ref 0]) (h' := kv_wd g w) rfl ?_
  refine kx_iE (k := (6 * k + 2)) (f := xs) rfl rfl (by decide) (kx_nadd (6 * k) 2) (by omega) (by omega) ?_
  refine kx_st 4 (pc' := 1247) (L' := [some (.ref 1000), some (.ref 0), some (.ref 65), some (.int (nI (6 * k)))]) (st' := [.int ((nI (6 * k)) + 3), .ref 1000, .int (xs (6 * k + 2)), .int (xs (6 * k + 1)), .ref 0]) (h' := kv_wd g w) rfl ?_
  refine kx_iE (k := (6 * k + 3)) (f := xs) rfl rfl (by decide) (kx_nadd (6 * k) 3) (by omega) (by omega) ?_
  refine kx_call (z := 113) (as := [.ref 0, .int (xs (6 * k + 1)), .int (xs (6 * k + 2)), .int (xs (6 * k + 3))]) (rest := []) (v := some (.int r)) (h1 := kv_wd g1 w1) rfl hx ?_
  refine kx_st 0 (pc' := 1251) (L' := [some (.ref 1000), some (.ref 0), some (.ref 65), some (.int (nI (6 * k)))]) (st' := [.int r]) (h' := kv_wd g1 w1) rfl ?_
  refine kx_st 5 (pc' := 1256) (L' := [some (.ref 1000), some (.ref 0), some (.ref 65), some (.int (nI (6 * k)))]) (st' := [.int ((nI (6 * k)) + 1), .ref 1000, .ref 65, .int r]) (h' := kv_wd g1 w1) rfl ?_
  refine kx_iE (k := (6 * k + 1)) (f := xs) rfl rfl (by decide) (kx_nadd (6 * k) 1) (by omega) (by omega) ?_
  refine kx_st 4 (pc' := 1261) (L' := [some (.ref 1000), some (.ref 0), some (.ref 65), some (.int (nI (6 * k)))]) (st' := [.int ((nI (6 * k)) + 2), .ref 1000, .int (xs (6 * k + 1)), .ref 65, .int r]) (h' := kv_wd g1 w1) rfl ?_
  refine kx_iE (k := (6 * k + 2)) (f := xs) rfl rfl (by decide) (kx_nadd (6 * k) 2) (by omega) (by omega) ?_
  refine kx_st 4 (pc' := 1266) (L' := [some (.ref 1000), some (.ref 0), some (.ref 65), some (.int (nI (6 * k)))]) (st' := [.int ((nI (6 * k)) + 3), .ref 1000, .int (xs (6 * k + 2)), .int (xs (6 * k + 1)), .ref 65, .int r]) (h' := kv_wd g1 w1) rfl ?_
  refine kx_iE (k := (6 * k + 3)) (f := xs) rfl rfl (by decide) (kx_nadd (6 * k) 3) (by omega) (by omega) ?_
  refine kx_call (z := 212) (as := [.ref 65, .int (xs (6 * k + 1)), .int (xs (6 * k + 2)), .int (xs (6 * k + 3))]) (rest := [.int r]) (v := some (.int r)) (h1 := kv_wd g2 w2) rfl hm ?_
  refine kx_st 0 (pc' := 1270) (L' := [some (.ref 1000), some (.ref 0), some (.ref 65), some (.int (nI (6 * k)))]) (st' := [.int r, .int r]) (h' := kv_wd g2 w2) rfl ?_
  refine kx_bi (t := 1492) rfl rfl (fun (h1270 : r = r) => ?_) (fun (h1270 : ¬ (r = r)) => ?_)
  · exact kk g2 w2 hR2
  · exact absurd rfl h1270
set_option maxRecDepth 100000 in
theorem lw_c33 {Ln : Nat} {xs : Nat → Int32} {Rl : kv_S → kv_W → Nat → Prop} {k : Nat} {g : kv_S} {w : kv_W} {P : Option Value → kv_H → Prop} (hL : Ln ≤ 3072) (hk : 6 * k + 6 ≤ Ln) (hR : Rl g w k) (hp : kx_ok2 (kv_E0 Ln xs) Rl 114 213 [.int (xs (6 * k + 1)), .int (xs (6 * k + 2)), .int (xs (6 * k + 3)), .int (xs (6 * k + 4)), .int (xs (6 * k + 5))]) (kk : ∀ g2 w2, Rl g2 w2 (k + 1) → kx_V (kv_E0 Ln xs) 900 223 1492 [some (.ref 1000), some (.ref 0), some (.ref 65), some (.int (nI (6 * k)))] [] (kv_wd g2 w2) P) : kx_V (kv_E0 Ln xs) 900 223 1275 [some (.ref 1000), some (.ref 0), some (.ref 65), some (.int (nI (6 * k)))] [] (kv_wd g w) P := by
  obtain ⟨r, g1, w1, g2, w2, hx, hm, hR2⟩ := hp g w k hR (by omega)
  refine kx_st 5 (pc' := 1280) (L' := [some (.ref 1000), some (.ref 0), some (.ref 65), some (.int (nI (6 * k)))]) (st' := [.int ((nI (6 * k)) + 1), .ref 1000, .ref 0]) (h' := kv_wd g w) rfl ?_
  refine kx_iE (k := (6 * k + 1)) (f := xs) rfl rfl (by decide) (kx_nadd (6 * k) 1) (by omega) (by omega) ?_
  refine kx_st 4 (pc' := 1285) (L' := [some (.ref 1000), some (.ref 0), some (.ref 65), some (.int (nI (6 * k)))]) (st' := [.int ((nI (6 * k)) + 2), .ref 1000, .int (xs (6 * k + 1)), .ref 0]) (h' := kv_wd g w) rfl ?_
  refine kx_iE (k := (6 * k + 2)) (f := xs) rfl rfl (by decide) (kx_nadd (6 * k) 2) (by omega) (by omega) ?_
  refine kx_st 4 (pc' := 1290) (L' := [some (.ref 1000), some (.ref 0), some (.ref 65), some (.int (nI (6 * k)))]) (st' := [.int ((nI (6 * k)) + 3), .ref 1000, .int (xs (6 * k + 2)), .int (xs (6 * k + 1)), .ref 0]) (h' := kv_wd g w) rfl ?_
  refine kx_iE (k := (6 * k + 3)) (f := xs) rfl rfl (by decide) (kx_nadd (6 * k) 3) (by omega) (by omega) ?_
  refine kx_st 4 (pc' := 1295) (L' := [some (.ref 1000), some (.ref 0), some (.ref 65), some (.int (nI (6 * k)))]) (st' := [.int ((nI (6 * k)) + 4), .ref 1000, .int (xs (6 * k + 3)), .int (xs (6 * k + 2)), .int (xs (6 * k + 1)), .ref 0]) (h' := kv_wd g w) rfl ?_
  refine kx_iE (k := (6 * k + 4)) (f := xs) rfl rfl (by decide) (kx_nadd (6 * k) 4) (by omega) (by omega) ?_
  refine kx_st 4 (pc' := 1300) (L' := [some (.ref 1000), some (.ref 0), some (.ref 65), some (.int (nI (6 * k)))]) (st' := [.int ((nI (6 * k)) + 5), .ref 1000, .int (xs (6 * k + 4)), .int (xs (6 * k + 3)), .int (xs (6 * k + 2)), .int (xs (6 * k + 1)), .ref 0]) (h' := kv_wd g w) rfl ?_
  refine kx_iE (k := (6 * k + 5)) (f := xs) rfl rfl (by decide) (kx_nadd (6 * k) 5) (by omega) (by omega) ?_
  refine kx_call (z := 114) (as := [.ref 0, .int (xs (6 * k + 1)), .int (xs (6 * k + 2)), .int (xs (6 * k + 3)), .int (xs (6 * k + 4)), .int (xs (6 * k + 5))]) (rest := []) (v := some (.int r)) (h1 := kv_wd g1 w1) rfl hx ?_
  refine kx_st 0 (pc' := 1304) (L' := [some (.ref 1000), some (.ref 0), some (.ref 65), some (.int (nI (6 * k)))]) (st' := [.int r]) (h' := kv_wd g1 w1) rfl ?_
  refine kx_st 5 (pc' := 1309) (L' := [some (.ref 1000), some (.ref 0), some (.ref 65), some (.int (nI (6 * k)))]) (st' := [.int ((nI (6 * k)) + 1), .ref 1000, .ref 65, .int r]) (h' := kv_wd g1 w1) rfl ?_
  refine kx_iE (k := (6 * k + 1)) (f := xs) rfl rfl (by decide) (kx_nadd (6 * k) 1) (by omega) (by omega) ?_
  refine kx_st 4 (pc' := 1314) (L' := [some (.ref 1000), some (.ref 0), some (.ref 65), some (.int (nI (6 * k)))]) (st' := [.int ((nI (6 * k)) + 2), .ref 1000, .int (xs (6 * k + 1)), .ref 65, .int r]) (h' := kv_wd g1 w1) rfl ?_
  refine kx_iE (k := (6 * k + 2)) (f := xs) rfl rfl (by decide) (kx_nadd (6 * k) 2) (by omega) (by omega) ?_
  refine kx_st 4 (pc' := 1319) (L' := [some (.ref 1000), some (.ref 0), some (.ref 65), some (.int (nI (6 * k)))]) (st' := [.int ((nI (6 * k)) + 3), .ref 1000, .int (xs (6 * k + 2)), .int (xs (6 * k + 1)), .ref 65, .int r]) (h' := kv_wd g1 w1) rfl ?_
  refine kx_iE (k := (6 * k + 3)) (f := xs) rfl rfl (by decide) (kx_nadd (6 * k) 3) (by omega) (by omega) ?_
  refine kx_st 4 (pc' := 1324) (L' := [some (.ref 1000), some (.ref 0), some (.ref 65), some (.int (nI (6 * k)))]) (st' := [.int ((nI (6 * k)) + 4), .ref 1000, .int (xs (6 * k + 3)), .int (xs (6 * k + 2)), .int (xs (6 * k + 1)), .ref 65, .int r]) (h' := kv_wd g1 w1) rfl ?_
  refine kx_iE (k := (6 * k + 4)) (f := xs) rfl rfl (by decide) (kx_nadd (6 * k) 4) (by omega) (by omega) ?_
  refine kx_st 4 (pc' := 1329) (L' := [some (.ref 1000), some (.ref 0), some (.ref 65), some (.int (nI (6 * k)))]) (st' := [.int ((nI (6 * k)) + 5), .ref 1000, .int (xs (6 * k + 4)), .int (xs (6 * k + 3)), .int (xs (6 * k + 2)), .int (xs (6 * k + 1)), .ref 65, .int r]) (h' := kv_wd g1 w1) rfl ?_
  refine kx_iE (k := (6 * k + 5)) (f := xs) rfl rfl (by decide) (kx_nadd (6 * k) 5) (by omega) (by omega) ?_
  refine kx_call (z := 213) (as := [.ref 65, .int (xs (6 * k + 1)), .int (xs (6 * k + 2)), .int (xs (6 * k + 3)), .int (xs (6 * k + 4)), .int (xs (6 * k + 5))]) (rest := [.int r]) (v := some (.int r)) (h1 := kv_wd g2 w2) rfl hm ?_
  refine kx_st 0 (pc' := 1333) (L' := [some (.ref 1000), some (.ref 0), some (.ref 65), some (.int (nI (6 * k)))]) (st' := [.int r, .int r]) (h' := kv_wd g2 w2) rfl ?_
  refine kx_bi (t := 1492) rfl rfl (fun (h1333 : r = r) => ?_) (fun (h1333 : ¬ (r = r)) => ?_)
  · exact kk g2 w2 hR2
  · exact absurd rfl h1333
set_option maxRecDepth 100000 in
theorem lw_c34 {Ln : Nat} {xs : Nat → Int32} {Rl : kv_S → kv_W → Nat → Prop} {k : Nat} {g : kv_S} {w : kv_W} {P : Option Value → kv_H → Prop} (hL : Ln ≤ 3072) (hk : 6 * k + 6 ≤ Ln) (hR : Rl g w k) (hp : kx_ok2 (kv_E0 Ln xs) Rl 115 214 [.int (xs (6 * k + 1))]) (kk : ∀ g2 w2, Rl g2 w2 (k + 1) → kx_V (kv_E0 Ln xs) 900 223 1492 [some (.ref 1000), some (.ref 0), some (.ref 65), some (.int (nI (6 * k)))] [] (kv_wd g2 w2) P) : kx_V (kv_E0 Ln xs) 900 223 1338 [some (.ref 1000), some (.ref 0), some (.ref 65), some (.int (nI (6 * k)))] [] (kv_wd g w) P := by
  obtain ⟨r, g1, w1, g2, w2, hx, hm, hR2⟩ := hp g w k hR (by omega)
  refine kx_st 5 (pc' := 1343) (L' := [some (.ref 1000), some (.ref 0), some (.ref 65), some (.int (nI (6 * k)))]) (st' := [.int ((nI (6 * k)) + 1), .ref 1000, .ref 0]) (h' := kv_wd g w) rfl ?_
  refine kx_iE (k := (6 * k + 1)) (f := xs) rfl rfl (by decide) (kx_nadd (6 * k) 1) (by omega) (by omega) ?_
  refine kx_call (z := 115) (as := [.ref 0, .int (xs (6 * k + 1))]) (rest := []) (v := some (.int r)) (h1 := kv_wd g1 w1) rfl hx ?_
  refine kx_st 0 (pc' := 1347) (L' := [some (.ref 1000), some (.ref 0), some (.ref 65), some (.int (nI (6 * k)))]) (st' := [.int r]) (h' := kv_wd g1 w1) rfl ?_
  refine kx_st 5 (pc' := 1352) (L' := [some (.ref 1000), some (.ref 0), some (.ref 65), some (.int (nI (6 * k)))]) (st' := [.int ((nI (6 * k)) + 1), .ref 1000, .ref 65, .int r]) (h' := kv_wd g1 w1) rfl ?_
  refine kx_iE (k := (6 * k + 1)) (f := xs) rfl rfl (by decide) (kx_nadd (6 * k) 1) (by omega) (by omega) ?_
  refine kx_call (z := 214) (as := [.ref 65, .int (xs (6 * k + 1))]) (rest := [.int r]) (v := some (.int r)) (h1 := kv_wd g2 w2) rfl hm ?_
  refine kx_st 0 (pc' := 1356) (L' := [some (.ref 1000), some (.ref 0), some (.ref 65), some (.int (nI (6 * k)))]) (st' := [.int r, .int r]) (h' := kv_wd g2 w2) rfl ?_
  refine kx_bi (t := 1492) rfl rfl (fun (h1356 : r = r) => ?_) (fun (h1356 : ¬ (r = r)) => ?_)
  · exact kk g2 w2 hR2
  · exact absurd rfl h1356
set_option maxRecDepth 100000 in
theorem lw_c35 {Ln : Nat} {xs : Nat → Int32} {Rl : kv_S → kv_W → Nat → Prop} {k : Nat} {g : kv_S} {w : kv_W} {P : Option Value → kv_H → Prop} (hL : Ln ≤ 3072) (hk : 6 * k + 6 ≤ Ln) (hR : Rl g w k) (hp : kx_ok2 (kv_E0 Ln xs) Rl 116 215 [.int (xs (6 * k + 1))]) (kk : ∀ g2 w2, Rl g2 w2 (k + 1) → kx_V (kv_E0 Ln xs) 900 223 1492 [some (.ref 1000), some (.ref 0), some (.ref 65), some (.int (nI (6 * k)))] [] (kv_wd g2 w2) P) : kx_V (kv_E0 Ln xs) 900 223 1361 [some (.ref 1000), some (.ref 0), some (.ref 65), some (.int (nI (6 * k)))] [] (kv_wd g w) P := by
  obtain ⟨r, g1, w1, g2, w2, hx, hm, hR2⟩ := hp g w k hR (by omega)
  refine kx_st 5 (pc' := 1366) (L' := [some (.ref 1000), some (.ref 0), some (.ref 65), some (.int (nI (6 * k)))]) (st' := [.int ((nI (6 * k)) + 1), .ref 1000, .ref 0]) (h' := kv_wd g w) rfl ?_
  refine kx_iE (k := (6 * k + 1)) (f := xs) rfl rfl (by decide) (kx_nadd (6 * k) 1) (by omega) (by omega) ?_
  refine kx_call (z := 116) (as := [.ref 0, .int (xs (6 * k + 1))]) (rest := []) (v := some (.int r)) (h1 := kv_wd g1 w1) rfl hx ?_
  refine kx_st 0 (pc' := 1370) (L' := [some (.ref 1000), some (.ref 0), some (.ref 65), some (.int (nI (6 * k)))]) (st' := [.int r]) (h' := kv_wd g1 w1) rfl ?_
  refine kx_st 5 (pc' := 1375) (L' := [some (.ref 1000), some (.ref 0), some (.ref 65), some (.int (nI (6 * k)))]) (st' := [.int ((nI (6 * k)) + 1), .ref 1000, .ref 65, .int r]) (h' := kv_wd g1 w1) rfl ?_
  refine kx_iE (k := (6 * k + 1)) (f := xs) rfl rfl (by decide) (kx_nadd (6 * k) 1) (by omega) (by omega) ?_
  refine kx_call (z := 215) (as := [.ref 65, .int (xs (6 * k + 1))]) (rest := [.int r]) (v := some (.int r)) (h1 := kv_wd g2 w2) rfl hm ?_
  refine kx_st 0 (pc' := 1379) (L' := [some (.ref 1000), some (.ref 0), some (.ref 65), some (.int (nI (6 * k)))]) (st' := [.int r, .int r]) (h' := kv_wd g2 w2) rfl ?_
  refine kx_bi (t := 1492) rfl rfl (fun (h1379 : r = r) => ?_) (fun (h1379 : ¬ (r = r)) => ?_)
  · exact kk g2 w2 hR2
  · exact absurd rfl h1379
set_option maxRecDepth 100000 in
theorem lw_c36 {Ln : Nat} {xs : Nat → Int32} {Rl : kv_S → kv_W → Nat → Prop} {k : Nat} {g : kv_S} {w : kv_W} {P : Option Value → kv_H → Prop} (hL : Ln ≤ 3072) (hk : 6 * k + 6 ≤ Ln) (hR : Rl g w k) (hp : kx_ok2 (kv_E0 Ln xs) Rl 117 216 []) (kk : ∀ g2 w2, Rl g2 w2 (k + 1) → kx_V (kv_E0 Ln xs) 900 223 1492 [some (.ref 1000), some (.ref 0), some (.ref 65), some (.int (nI (6 * k)))] [] (kv_wd g2 w2) P) : kx_V (kv_E0 Ln xs) 900 223 1384 [some (.ref 1000), some (.ref 0), some (.ref 65), some (.int (nI (6 * k)))] [] (kv_wd g w) P := by
  obtain ⟨r, g1, w1, g2, w2, hx, hm, hR2⟩ := hp g w k hR (by omega)
  refine kx_st 1 (pc' := 1385) (L' := [some (.ref 1000), some (.ref 0), some (.ref 65), some (.int (nI (6 * k)))]) (st' := [.ref 0]) (h' := kv_wd g w) rfl ?_
  refine kx_call (z := 117) (as := [.ref 0]) (rest := []) (v := some (.int r)) (h1 := kv_wd g1 w1) rfl hx ?_
  refine kx_st 0 (pc' := 1388) (L' := [some (.ref 1000), some (.ref 0), some (.ref 65), some (.int (nI (6 * k)))]) (st' := [.int r]) (h' := kv_wd g1 w1) rfl ?_
  refine kx_st 1 (pc' := 1389) (L' := [some (.ref 1000), some (.ref 0), some (.ref 65), some (.int (nI (6 * k)))]) (st' := [.ref 65, .int r]) (h' := kv_wd g1 w1) rfl ?_
  refine kx_call (z := 216) (as := [.ref 65]) (rest := [.int r]) (v := some (.int r)) (h1 := kv_wd g2 w2) rfl hm ?_
  refine kx_st 0 (pc' := 1392) (L' := [some (.ref 1000), some (.ref 0), some (.ref 65), some (.int (nI (6 * k)))]) (st' := [.int r, .int r]) (h' := kv_wd g2 w2) rfl ?_
  refine kx_bi (t := 1492) rfl rfl (fun (h1392 : r = r) => ?_) (fun (h1392 : ¬ (r = r)) => ?_)
  · exact kk g2 w2 hR2
  · exact absurd rfl h1392
set_option maxRecDepth 100000 in
theorem lw_c37 {Ln : Nat} {xs : Nat → Int32} {Rl : kv_S → kv_W → Nat → Prop} {k : Nat} {g : kv_S} {w : kv_W} {P : Option Value → kv_H → Prop} (hL : Ln ≤ 3072) (hk : 6 * k + 6 ≤ Ln) (hR : Rl g w k) (hp : kx_ok2 (kv_E0 Ln xs) Rl 118 217 []) (kk : ∀ g2 w2, Rl g2 w2 (k + 1) → kx_V (kv_E0 Ln xs) 900 223 1492 [some (.ref 1000), some (.ref 0), some (.ref 65), some (.int (nI (6 * k)))] [] (kv_wd g2 w2) P) : kx_V (kv_E0 Ln xs) 900 223 1397 [some (.ref 1000), some (.ref 0), some (.ref 65), some (.int (nI (6 * k)))] [] (kv_wd g w) P := by
  obtain ⟨r, g1, w1, g2, w2, hx, hm, hR2⟩ := hp g w k hR (by omega)
  refine kx_st 1 (pc' := 1398) (L' := [some (.ref 1000), some (.ref 0), some (.ref 65), some (.int (nI (6 * k)))]) (st' := [.ref 0]) (h' := kv_wd g w) rfl ?_
  refine kx_call (z := 118) (as := [.ref 0]) (rest := []) (v := some (.int r)) (h1 := kv_wd g1 w1) rfl hx ?_
  refine kx_st 0 (pc' := 1401) (L' := [some (.ref 1000), some (.ref 0), some (.ref 65), some (.int (nI (6 * k)))]) (st' := [.int r]) (h' := kv_wd g1 w1) rfl ?_
  refine kx_st 1 (pc' := 1402) (L' := [some (.ref 1000), some (.ref 0), some (.ref 65), some (.int (nI (6 * k)))]) (st' := [.ref 65, .int r]) (h' := kv_wd g1 w1) rfl ?_
  refine kx_call (z := 217) (as := [.ref 65]) (rest := [.int r]) (v := some (.int r)) (h1 := kv_wd g2 w2) rfl hm ?_
  refine kx_st 0 (pc' := 1405) (L' := [some (.ref 1000), some (.ref 0), some (.ref 65), some (.int (nI (6 * k)))]) (st' := [.int r, .int r]) (h' := kv_wd g2 w2) rfl ?_
  refine kx_bi (t := 1492) rfl rfl (fun (h1405 : r = r) => ?_) (fun (h1405 : ¬ (r = r)) => ?_)
  · exact kk g2 w2 hR2
  · exact absurd rfl h1405
set_option maxRecDepth 100000 in
theorem lw_c38 {Ln : Nat} {xs : Nat → Int32} {Rl : kv_S → kv_W → Nat → Prop} {k : Nat} {g : kv_S} {w : kv_W} {P : Option Value → kv_H → Prop} (hL : Ln ≤ 3072) (hk : 6 * k + 6 ≤ Ln) (hR : Rl g w k) (hp : kx_ok2 (kv_E0 Ln xs) Rl 119 218 [.int (xs (6 * k + 1))]) (kk : ∀ g2 w2, Rl g2 w2 (k + 1) → kx_V (kv_E0 Ln xs) 900 223 1492 [some (.ref 1000), some (.ref 0), some (.ref 65), some (.int (nI (6 * k)))] [] (kv_wd g2 w2) P) : kx_V (kv_E0 Ln xs) 900 223 1410 [some (.ref 1000), some (.ref 0), some (.ref 65), some (.int (nI (6 * k)))] [] (kv_wd g w) P := by
  obtain ⟨r, g1, w1, g2, w2, hx, hm, hR2⟩ := hp g w k hR (by omega)
  refine kx_st 5 (pc' := 1415) (L' := [some (.ref 1000), some (.ref 0), some (.ref 65), some (.int (nI (6 * k)))]) (st' := [.int ((nI (6 * k)) + 1), .ref 1000, .ref 0]) (h' := kv_wd g w) rfl ?_
  refine kx_iE (k := (6 * k + 1)) (f := xs) rfl rfl (by decide) (kx_nadd (6 * k) 1) (by omega) (by omega) ?_
  refine kx_call (z := 119) (as := [.ref 0, .int (xs (6 * k + 1))]) (rest := []) (v := some (.int r)) (h1 := kv_wd g1 w1) rfl hx ?_
  refine kx_st 0 (pc' := 1419) (L' := [some (.ref 1000), some (.ref 0), some (.ref 65), some (.int (nI (6 * k)))]) (st' := [.int r]) (h' := kv_wd g1 w1) rfl ?_
  refine kx_st 5 (pc' := 1424) (L' := [some (.ref 1000), some (.ref 0), some (.ref 65), some (.int (nI (6 * k)))]) (st' := [.int ((nI (6 * k)) + 1), .ref 1000, .ref 65, .int r]) (h' := kv_wd g1 w1) rfl ?_
  refine kx_iE (k := (6 * k + 1)) (f := xs) rfl rfl (by decide) (kx_nadd (6 * k) 1) (by omega) (by omega) ?_
  refine kx_call (z := 218) (as := [.ref 65, .int (xs (6 * k + 1))]) (rest := [.int r]) (v := some (.int r)) (h1 := kv_wd g2 w2) rfl hm ?_
  refine kx_st 0 (pc' := 1428) (L' := [some (.ref 1000), some (.ref 0), some (.ref 65), some (.int (nI (6 * k)))]) (st' := [.int r, .int r]) (h' := kv_wd g2 w2) rfl ?_
  refine kx_bi (t := 1492) rfl rfl (fun (h1428 : r = r) => ?_) (fun (h1428 : ¬ (r = r)) => ?_)
  · exact kk g2 w2 hR2
  · exact absurd rfl h1428
set_option maxRecDepth 100000 in
theorem lw_c39 {Ln : Nat} {xs : Nat → Int32} {Rl : kv_S → kv_W → Nat → Prop} {k : Nat} {g : kv_S} {w : kv_W} {P : Option Value → kv_H → Prop} (hL : Ln ≤ 3072) (hk : 6 * k + 6 ≤ Ln) (hR : Rl g w k) (hp : kx_ok2 (kv_E0 Ln xs) Rl 120 219 []) (kk : ∀ g2 w2, Rl g2 w2 (k + 1) → kx_V (kv_E0 Ln xs) 900 223 1492 [some (.ref 1000), some (.ref 0), some (.ref 65), some (.int (nI (6 * k)))] [] (kv_wd g2 w2) P) : kx_V (kv_E0 Ln xs) 900 223 1433 [some (.ref 1000), some (.ref 0), some (.ref 65), some (.int (nI (6 * k)))] [] (kv_wd g w) P := by
  obtain ⟨r, g1, w1, g2, w2, hx, hm, hR2⟩ := hp g w k hR (by omega)
  refine kx_st 1 (pc' := 1434) (L' := [some (.ref 1000), some (.ref 0), some (.ref 65), some (.int (nI (6 * k)))]) (st' := [.ref 0]) (h' := kv_wd g w) rfl ?_
  refine kx_call (z := 120) (as := [.ref 0]) (rest := []) (v := some (.int r)) (h1 := kv_wd g1 w1) rfl hx ?_
  refine kx_st 0 (pc' := 1437) (L' := [some (.ref 1000), some (.ref 0), some (.ref 65), some (.int (nI (6 * k)))]) (st' := [.int r]) (h' := kv_wd g1 w1) rfl ?_
  refine kx_st 1 (pc' := 1438) (L' := [some (.ref 1000), some (.ref 0), some (.ref 65), some (.int (nI (6 * k)))]) (st' := [.ref 65, .int r]) (h' := kv_wd g1 w1) rfl ?_
  refine kx_call (z := 219) (as := [.ref 65]) (rest := [.int r]) (v := some (.int r)) (h1 := kv_wd g2 w2) rfl hm ?_
  refine kx_st 0 (pc' := 1441) (L' := [some (.ref 1000), some (.ref 0), some (.ref 65), some (.int (nI (6 * k)))]) (st' := [.int r, .int r]) (h' := kv_wd g2 w2) rfl ?_
  refine kx_bi (t := 1492) rfl rfl (fun (h1441 : r = r) => ?_) (fun (h1441 : ¬ (r = r)) => ?_)
  · exact kk g2 w2 hR2
  · exact absurd rfl h1441
set_option maxRecDepth 100000 in
theorem lw_c40 {Ln : Nat} {xs : Nat → Int32} {Rl : kv_S → kv_W → Nat → Prop} {k : Nat} {g : kv_S} {w : kv_W} {P : Option Value → kv_H → Prop} (hL : Ln ≤ 3072) (hk : 6 * k + 6 ≤ Ln) (hR : Rl g w k) (hp : kx_ok2 (kv_E0 Ln xs) Rl 121 220 [.int (xs (6 * k + 1))]) (kk : ∀ g2 w2, Rl g2 w2 (k + 1) → kx_V (kv_E0 Ln xs) 900 223 1492 [some (.ref 1000), some (.ref 0), some (.ref 65), some (.int (nI (6 * k)))] [] (kv_wd g2 w2) P) : kx_V (kv_E0 Ln xs) 900 223 1446 [some (.ref 1000), some (.ref 0), some (.ref 65), some (.int (nI (6 * k)))] [] (kv_wd g w) P := by
  obtain ⟨r, g1, w1, g2, w2, hx, hm, hR2⟩ := hp g w k hR (by omega)
  refine kx_st 5 (pc' := 1451) (L' := [some (.ref 1000), some (.ref 0), some (.ref 65), some (.int (nI (6 * k)))]) (st' := [.int ((nI (6 * k)) + 1), .ref 1000, .ref 0]) (h' := kv_wd g w) rfl ?_
  refine kx_iE (k := (6 * k + 1)) (f := xs) rfl rfl (by decide) (kx_nadd (6 * k) 1) (by omega) (by omega) ?_
  refine kx_call (z := 121) (as := [.ref 0, .int (xs (6 * k + 1))]) (rest := []) (v := some (.int r)) (h1 := kv_wd g1 w1) rfl hx ?_
  refine kx_st 0 (pc' := 1455) (L' := [some (.ref 1000), some (.ref 0), some (.ref 65), some (.int (nI (6 * k)))]) (st' := [.int r]) (h' := kv_wd g1 w1) rfl ?_
  refine kx_st 5 (pc' := 1460) (L' := [some (.ref 1000), some (.ref 0), some (.ref 65), some (.int (nI (6 * k)))]) (st' := [.int ((nI (6 * k)) + 1), .ref 1000, .ref 65, .int r]) (h' := kv_wd g1 w1) rfl ?_
  refine kx_iE (k := (6 * k + 1)) (f := xs) rfl rfl (by decide) (kx_nadd (6 * k) 1) (by omega) (by omega) ?_
  refine kx_call (z := 220) (as := [.ref 65, .int (xs (6 * k + 1))]) (rest := [.int r]) (v := some (.int r)) (h1 := kv_wd g2 w2) rfl hm ?_
  refine kx_st 0 (pc' := 1464) (L' := [some (.ref 1000), some (.ref 0), some (.ref 65), some (.int (nI (6 * k)))]) (st' := [.int r, .int r]) (h' := kv_wd g2 w2) rfl ?_
  refine kx_bi (t := 1492) rfl rfl (fun (h1464 : r = r) => ?_) (fun (h1464 : ¬ (r = r)) => ?_)
  · exact kk g2 w2 hR2
  · exact absurd rfl h1464
set_option maxRecDepth 100000 in
theorem lw_c41 {Ln : Nat} {xs : Nat → Int32} {Rl : kv_S → kv_W → Nat → Prop} {k : Nat} {g : kv_S} {w : kv_W} {P : Option Value → kv_H → Prop} (hL : Ln ≤ 3072) (hk : 6 * k + 6 ≤ Ln) (hR : Rl g w k) (hp : kx_ok2 (kv_E0 Ln xs) Rl 122 221 [.int (xs (6 * k + 1))]) (kk : ∀ g2 w2, Rl g2 w2 (k + 1) → kx_V (kv_E0 Ln xs) 900 223 1492 [some (.ref 1000), some (.ref 0), some (.ref 65), some (.int (nI (6 * k)))] [] (kv_wd g2 w2) P) : kx_V (kv_E0 Ln xs) 900 223 1469 [some (.ref 1000), some (.ref 0), some (.ref 65), some (.int (nI (6 * k)))] [] (kv_wd g w) P := by
  obtain ⟨r, g1, w1, g2, w2, hx, hm, hR2⟩ := hp g w k hR (by omega)
  refine kx_st 5 (pc' := 1474) (L' := [some (.ref 1000), some (.ref 0), some (.ref 65), some (.int (nI (6 * k)))]) (st' := [.int ((nI (6 * k)) + 1), .ref 1000, .ref 0]) (h' := kv_wd g w) rfl ?_
  refine kx_iE (k := (6 * k + 1)) (f := xs) rfl rfl (by decide) (kx_nadd (6 * k) 1) (by omega) (by omega) ?_
  refine kx_call (z := 122) (as := [.ref 0, .int (xs (6 * k + 1))]) (rest := []) (v := some (.int r)) (h1 := kv_wd g1 w1) rfl hx ?_
  refine kx_st 0 (pc' := 1478) (L' := [some (.ref 1000), some (.ref 0), some (.ref 65), some (.int (nI (6 * k)))]) (st' := [.int r]) (h' := kv_wd g1 w1) rfl ?_
  refine kx_st 5 (pc' := 1483) (L' := [some (.ref 1000), some (.ref 0), some (.ref 65), some (.int (nI (6 * k)))]) (st' := [.int ((nI (6 * k)) + 1), .ref 1000, .ref 65, .int r]) (h' := kv_wd g1 w1) rfl ?_
  refine kx_iE (k := (6 * k + 1)) (f := xs) rfl rfl (by decide) (kx_nadd (6 * k) 1) (by omega) (by omega) ?_
  refine kx_call (z := 221) (as := [.ref 65, .int (xs (6 * k + 1))]) (rest := [.int r]) (v := some (.int r)) (h1 := kv_wd g2 w2) rfl hm ?_
  refine kx_st 0 (pc' := 1487) (L' := [some (.ref 1000), some (.ref 0), some (.ref 65), some (.int (nI (6 * k)))]) (st' := [.int r, .int r]) (h' := kv_wd g2 w2) rfl ?_
  refine kx_bi (t := 1492) rfl rfl (fun (h1487 : r = r) => ?_) (fun (h1487 : ¬ (r = r)) => ?_)
  · exact kk g2 w2 hR2
  · exact absurd rfl h1487
/-- every pair of calls -/
def kx_all (E : kv_V) (Rl : kv_S → kv_W → Nat → Prop) : Prop := (∀ a0 : Int32, kx_ok2 E Rl 81 143 [.int a0]) ∧ (∀ a0 a1 a2 : Int32, kx_ok2 E Rl 82 144 [.int a0, .int a1, .int a2]) ∧ (∀ a0 a1 : Int32, kx_ok2 E Rl 83 145 [.int a0, .int a1]) ∧ (∀ a0 a1 a2 : Int32, kx_ok2 E Rl 84 147 [.int a0, .int a1, .int a2]) ∧ (∀ a0 a1 : Int32, kx_ok2 E Rl 85 149 [.int a0, .int a1]) ∧ (∀ a0 a1 : Int32, kx_ok2 E Rl 86 150 [.int a0, .int a1]) ∧ (∀ a0 a1 a2 : Int32, kx_ok2 E Rl 87 151 [.int a0, .int a1, .int a2]) ∧ (∀ a0 a1 : Int32, kx_ok2 E Rl 88 152 [.int a0, .int a1]) ∧ (∀ a0 a1 : Int32, kx_ok2 E Rl 89 154 [.int a0, .int a1]) ∧ (∀ (a0 : Int64) (a1 : Int32), kx_ok2 E Rl 90 169 [.long a0, .int a1]) ∧ (∀ a0 : Int32, kx_ok2 E Rl 91 170 [.int a0]) ∧ (∀ a0 a1 a2 a3 : Int32, kx_ok2 E Rl 92 168 [.int a0, .int a1, .int a2, .int a3]) ∧ (∀ a0 : Int32, kx_ok2 E Rl 93 181 [.int a0]) ∧ (∀ a0 : Int32, kx_ok2 E Rl 94 183 [.int a0]) ∧ (∀ a0 : Int32, kx_ok2 E Rl 95 184 [.int a0]) ∧ (∀ a0 a1 a2 : Int32, kx_ok2 E Rl 96 185 [.int a0, .int a1, .int a2]) ∧ (∀ a0 a1 a2 : Int32, kx_ok2 E Rl 97 177 [.int a0, .int a1, .int a2]) ∧ (∀ a0 : Int32, kx_ok2 E Rl 98 186 [.int a0]) ∧ (∀ a0 : Int32, kx_ok2 E Rl 99 189 [.int a0]) ∧ (∀ a0 a1 : Int32, kx_ok2 E Rl 100 190 [.int a0, .int a1]) ∧ (∀ a0 a1 : Int32, kx_ok2 E Rl 101 192 [.int a0, .int a1]) ∧ (kx_ok2 E Rl 102 193 []) ∧ (∀ a0 a1 : Int32, kx_ok2 E Rl 103 194 [.int a0, .int a1]) ∧ (∀ a0 : Int32, kx_ok2 E Rl 104 195 [.int a0]) ∧ (kx_ok2 E Rl 105 196 []) ∧ (∀ a0 : Int32, kx_ok2 E Rl 106 197 [.int a0]) ∧ (∀ a0 a1 : Int32, kx_ok2 E Rl 107 199 [.int a0, .int a1]) ∧ (∀ a0 : Int32, kx_ok2 E Rl 108 201 [.int a0]) ∧ (∀ a0 : Int32, kx_ok2 E Rl 109 202 [.int a0]) ∧ (∀ a0 a1 a2 : Int32, kx_ok2 E Rl 110 208 [.int a0, .int a1, .int a2]) ∧ (∀ a0 : Int32, kx_ok2 E Rl 111 209 [.int a0]) ∧ (∀ a0 a1 a2 : Int32, kx_ok2 E Rl 112 211 [.int a0, .int a1, .int a2]) ∧ (∀ a0 a1 a2 : Int32, kx_ok2 E Rl 113 212 [.int a0, .int a1, .int a2]) ∧ (∀ a0 a1 a2 a3 a4 : Int32, kx_ok2 E Rl 114 213 [.int a0, .int a1, .int a2, .int a3, .int a4]) ∧ (∀ a0 : Int32, kx_ok2 E Rl 115 214 [.int a0]) ∧ (∀ a0 : Int32, kx_ok2 E Rl 116 215 [.int a0]) ∧ (kx_ok2 E Rl 117 216 []) ∧ (kx_ok2 E Rl 118 217 []) ∧ (∀ a0 : Int32, kx_ok2 E Rl 119 218 [.int a0]) ∧ (kx_ok2 E Rl 120 219 []) ∧ (∀ a0 : Int32, kx_ok2 E Rl 121 220 [.int a0]) ∧ (∀ a0 : Int32, kx_ok2 E Rl 122 221 [.int a0])
set_option maxRecDepth 100000 in
set_option maxHeartbeats 4000000 in
theorem lw_loop {Ln : Nat} {xs : Nat → Int32} {Rl : kv_S → kv_W → Nat → Prop} {P : Option Value → kv_H → Prop} (hL : Ln ≤ 3072) (ha : kx_all (kv_E0 Ln xs) Rl) (hskip : ∀ g w k, Rl g w k → Rl g w (k + 1)) (hP : ∀ g w, P (some (.int 1)) (kv_wd g w)) : ∀ (n k : Nat) (g : kv_S) (w : kv_W), k + n = Ln / 6 → Rl g w k → kx_V (kv_E0 Ln xs) 900 223 18 [some (.ref 1000), some (.ref 0), some (.ref 65), some (.int (nI (6 * k)))] [] (kv_wd g w) P := by
  intro n
  induction n with
  | zero =>
    intro k g w hk hR
    refine kx_st 2 (pc' := 20) (L' := [some (.ref 1000), some (.ref 0), some (.ref 65), some (.int (nI (6 * k)))]) (st' := [.ref 1000, .int (nI (6 * k))]) (h' := kv_wd g w) rfl ?_
    refine kx_aE (n := Ln) rfl rfl (by decide) ?_
    refine kx_st 2 (pc' := 24) (L' := [some (.ref 1000), some (.ref 0), some (.ref 65), some (.int (nI (6 * k)))]) (st' := [.int ((nI Ln) - 6), .int (nI (6 * k))]) (h' := kv_wd g w) rfl ?_
    refine kx_bi (t := 1498) rfl rfl (fun (h24 : (nI Ln) - 6 < nI (6 * k)) => ?_) (fun (h24 : ¬ ((nI Ln) - 6 < nI (6 * k))) => ?_)
    · refine kx_st 1 (pc' := 1499) (L' := [some (.ref 1000), some (.ref 0), some (.ref 65), some (.int (nI (6 * k)))]) (st' := [.int 1]) (h' := kv_wd g w) rfl ?_
      refine kx_ret (v := some (.int 1)) rfl ?_
      exact hP g w
    · exact absurd ((kx_lim hL (by omega)).mpr (by omega)) h24
  | succ n ih =>
    intro k g w hk hR
    have kk : ∀ g2 w2, Rl g2 w2 (k + 1) → kx_V (kv_E0 Ln xs) 900 223 1492 [some (.ref 1000), some (.ref 0), some (.ref 65), some (.int (nI (6 * k)))] [] (kv_wd g2 w2) P := by
      intro g2 w2 hR2
      refine kx_st 2 (pc' := 18) (L' := [some (.ref 1000), some (.ref 0), some (.ref 65), some (.int ((nI (6 * k)) + 6))]) (st' := []) (h' := kv_wd g2 w2) rfl ?_
      rw [show nI (6 * k) + 6 = nI (6 * (k + 1)) from by rw [show 6 * (k + 1) = 6 * k + 6 by omega]; exact kx_nadd (6 * k) 6]
      exact ih (k + 1) g2 w2 (by omega) hR2
    refine kx_st 2 (pc' := 20) (L' := [some (.ref 1000), some (.ref 0), some (.ref 65), some (.int (nI (6 * k)))]) (st' := [.ref 1000, .int (nI (6 * k))]) (h' := kv_wd g w) rfl ?_
    refine kx_aE (n := Ln) rfl rfl (by decide) ?_
    refine kx_st 2 (pc' := 24) (L' := [some (.ref 1000), some (.ref 0), some (.ref 65), some (.int (nI (6 * k)))]) (st' := [.int ((nI Ln) - 6), .int (nI (6 * k))]) (h' := kv_wd g w) rfl ?_
    refine kx_bi (t := 1498) rfl rfl (fun (h24 : (nI Ln) - 6 < nI (6 * k)) => ?_) (fun (h24 : ¬ ((nI Ln) - 6 < nI (6 * k))) => ?_)
    · exact absurd ((kx_lim hL (by omega)).mp h24) (by omega)
    · refine kx_st 0 (pc' := 27) (L' := [some (.ref 1000), some (.ref 0), some (.ref 65), some (.int (nI (6 * k)))]) (st' := []) (h' := kv_wd g w) rfl ?_
      refine kx_st 2 (pc' := 29) (L' := [some (.ref 1000), some (.ref 0), some (.ref 65), some (.int (nI (6 * k)))]) (st' := [.int (nI (6 * k)), .ref 1000]) (h' := kv_wd g w) rfl ?_
      refine kx_iE (k := (6 * k)) (f := xs) rfl rfl (by decide) rfl (by omega) (by omega) ?_
      refine kx_st 2 (pc' := 33) (L' := [some (.ref 1000), some (.ref 0), some (.ref 65), some (.int (nI (6 * k)))]) (st' := [.int ((xs (6 * k)) &&& 63)]) (h' := kv_wd g w) rfl ?_
      refine kx_ts (td := 1492) rfl rfl (fun _ => kk g w ?_) (fun j hj hx => ?_)
      · exact hskip g w k hR
      · match j, hj with
        | 0, _ => exact ⟨_, 216, rfl, rfl, lw_c0 hL (by omega) hR (ha.1 _) kk⟩
        | 1, _ => exact ⟨_, 239, rfl, rfl, lw_c1 hL (by omega) hR (ha.2.1 _ _ _) kk⟩
        | 2, _ => exact ⟨_, 282, rfl, rfl, lw_c2 hL (by omega) hR (ha.2.2.1 _ _) kk⟩
        | 3, _ => exact ⟨_, 315, rfl, rfl, lw_c3 hL (by omega) hR (ha.2.2.2.1 _ _ _) kk⟩
        | 4, _ => exact ⟨_, 358, rfl, rfl, lw_c4 hL (by omega) hR (ha.2.2.2.2.1 _ _) kk⟩
        | 5, _ => exact ⟨_, 391, rfl, rfl, lw_c5 hL (by omega) hR (ha.2.2.2.2.2.1 _ _) kk⟩
        | 6, _ => exact ⟨_, 424, rfl, rfl, lw_c6 hL (by omega) hR (ha.2.2.2.2.2.2.1 _ _ _) kk⟩
        | 7, _ => exact ⟨_, 467, rfl, rfl, lw_c7 hL (by omega) hR (ha.2.2.2.2.2.2.2.1 _ _) kk⟩
        | 8, _ => exact ⟨_, 500, rfl, rfl, lw_c8 hL (by omega) hR (ha.2.2.2.2.2.2.2.2.1 _ _) kk⟩
        | 9, _ => exact ⟨_, 533, rfl, rfl, lw_c9 hL (by omega) hR (ha.2.2.2.2.2.2.2.2.2.1 _ _) kk⟩
        | 10, _ => exact ⟨_, 596, rfl, rfl, lw_c10 hL (by omega) hR (ha.2.2.2.2.2.2.2.2.2.2.1 _) kk⟩
        | 11, _ => exact ⟨_, 619, rfl, rfl, lw_c11 hL (by omega) hR (ha.2.2.2.2.2.2.2.2.2.2.2.1 _ _ _ _) kk⟩
        | 12, _ => exact ⟨_, 672, rfl, rfl, lw_c12 hL (by omega) hR (ha.2.2.2.2.2.2.2.2.2.2.2.2.1 _) kk⟩
        | 13, _ => exact ⟨_, 695, rfl, rfl, lw_c13 hL (by omega) hR (ha.2.2.2.2.2.2.2.2.2.2.2.2.2.1 _) kk⟩
        | 14, _ => exact ⟨_, 718, rfl, rfl, lw_c14 hL (by omega) hR (ha.2.2.2.2.2.2.2.2.2.2.2.2.2.2.1 _) kk⟩
        | 15, _ => exact ⟨_, 741, rfl, rfl, lw_c15 hL (by omega) hR (ha.2.2.2.2.2.2.2.2.2.2.2.2.2.2.2.1 _ _ _) kk⟩
        | 16, _ => exact ⟨_, 784, rfl, rfl, lw_c16 hL (by omega) hR (ha.2.2.2.2.2.2.2.2.2.2.2.2.2.2.2.2.1 _ _ _) kk⟩
        | 17, _ => exact ⟨_, 827, rfl, rfl, lw_c17 hL (by omega) hR (ha.2.2.2.2.2.2.2.2.2.2.2.2.2.2.2.2.2.1 _) kk⟩
        | 18, _ => exact ⟨_, 850, rfl, rfl, lw_c18 hL (by omega) hR (ha.2.2.2.2.2.2.2.2.2.2.2.2.2.2.2.2.2.2.1 _) kk⟩
        | 19, _ => exact ⟨_, 873, rfl, rfl, lw_c19 hL (by omega) hR (ha.2.2.2.2.2.2.2.2.2.2.2.2.2.2.2.2.2.2.2.1 _ _) kk⟩
        | 20, _ => exact ⟨_, 906, rfl, rfl, lw_c20 hL (by omega) hR (ha.2.2.2.2.2.2.2.2.2.2.2.2.2.2.2.2.2.2.2.2.1 _ _) kk⟩
        | 21, _ => exact ⟨_, 939, rfl, rfl, lw_c21 hL (by omega) hR (ha.2.2.2.2.2.2.2.2.2.2.2.2.2.2.2.2.2.2.2.2.2.1) kk⟩
        | 22, _ => exact ⟨_, 952, rfl, rfl, lw_c22 hL (by omega) hR (ha.2.2.2.2.2.2.2.2.2.2.2.2.2.2.2.2.2.2.2.2.2.2.1 _ _) kk⟩
        | 23, _ => exact ⟨_, 985, rfl, rfl, lw_c23 hL (by omega) hR (ha.2.2.2.2.2.2.2.2.2.2.2.2.2.2.2.2.2.2.2.2.2.2.2.1 _) kk⟩
        | 24, _ => exact ⟨_, 1008, rfl, rfl, lw_c24 hL (by omega) hR (ha.2.2.2.2.2.2.2.2.2.2.2.2.2.2.2.2.2.2.2.2.2.2.2.2.1) kk⟩
        | 25, _ => exact ⟨_, 1021, rfl, rfl, lw_c25 hL (by omega) hR (ha.2.2.2.2.2.2.2.2.2.2.2.2.2.2.2.2.2.2.2.2.2.2.2.2.2.1 _) kk⟩
        | 26, _ => exact ⟨_, 1044, rfl, rfl, lw_c26 hL (by omega) hR (ha.2.2.2.2.2.2.2.2.2.2.2.2.2.2.2.2.2.2.2.2.2.2.2.2.2.2.1 _ _) kk⟩
        | 27, _ => exact ⟨_, 1077, rfl, rfl, lw_c27 hL (by omega) hR (ha.2.2.2.2.2.2.2.2.2.2.2.2.2.2.2.2.2.2.2.2.2.2.2.2.2.2.2.1 _) kk⟩
        | 28, _ => exact ⟨_, 1100, rfl, rfl, lw_c28 hL (by omega) hR (ha.2.2.2.2.2.2.2.2.2.2.2.2.2.2.2.2.2.2.2.2.2.2.2.2.2.2.2.2.1 _) kk⟩
        | 29, _ => exact ⟨_, 1123, rfl, rfl, lw_c29 hL (by omega) hR (ha.2.2.2.2.2.2.2.2.2.2.2.2.2.2.2.2.2.2.2.2.2.2.2.2.2.2.2.2.2.1 _ _ _) kk⟩
        | 30, _ => exact ⟨_, 1166, rfl, rfl, lw_c30 hL (by omega) hR (ha.2.2.2.2.2.2.2.2.2.2.2.2.2.2.2.2.2.2.2.2.2.2.2.2.2.2.2.2.2.2.1 _) kk⟩
        | 31, _ => exact ⟨_, 1189, rfl, rfl, lw_c31 hL (by omega) hR (ha.2.2.2.2.2.2.2.2.2.2.2.2.2.2.2.2.2.2.2.2.2.2.2.2.2.2.2.2.2.2.2.1 _ _ _) kk⟩
        | 32, _ => exact ⟨_, 1232, rfl, rfl, lw_c32 hL (by omega) hR (ha.2.2.2.2.2.2.2.2.2.2.2.2.2.2.2.2.2.2.2.2.2.2.2.2.2.2.2.2.2.2.2.2.1 _ _ _) kk⟩
        | 33, _ => exact ⟨_, 1275, rfl, rfl, lw_c33 hL (by omega) hR (ha.2.2.2.2.2.2.2.2.2.2.2.2.2.2.2.2.2.2.2.2.2.2.2.2.2.2.2.2.2.2.2.2.2.1 _ _ _ _ _) kk⟩
        | 34, _ => exact ⟨_, 1338, rfl, rfl, lw_c34 hL (by omega) hR (ha.2.2.2.2.2.2.2.2.2.2.2.2.2.2.2.2.2.2.2.2.2.2.2.2.2.2.2.2.2.2.2.2.2.2.1 _) kk⟩
        | 35, _ => exact ⟨_, 1361, rfl, rfl, lw_c35 hL (by omega) hR (ha.2.2.2.2.2.2.2.2.2.2.2.2.2.2.2.2.2.2.2.2.2.2.2.2.2.2.2.2.2.2.2.2.2.2.2.1 _) kk⟩
        | 36, _ => exact ⟨_, 1384, rfl, rfl, lw_c36 hL (by omega) hR (ha.2.2.2.2.2.2.2.2.2.2.2.2.2.2.2.2.2.2.2.2.2.2.2.2.2.2.2.2.2.2.2.2.2.2.2.2.1) kk⟩
        | 37, _ => exact ⟨_, 1397, rfl, rfl, lw_c37 hL (by omega) hR (ha.2.2.2.2.2.2.2.2.2.2.2.2.2.2.2.2.2.2.2.2.2.2.2.2.2.2.2.2.2.2.2.2.2.2.2.2.2.1) kk⟩
        | 38, _ => exact ⟨_, 1410, rfl, rfl, lw_c38 hL (by omega) hR (ha.2.2.2.2.2.2.2.2.2.2.2.2.2.2.2.2.2.2.2.2.2.2.2.2.2.2.2.2.2.2.2.2.2.2.2.2.2.2.1 _) kk⟩
        | 39, _ => exact ⟨_, 1433, rfl, rfl, lw_c39 hL (by omega) hR (ha.2.2.2.2.2.2.2.2.2.2.2.2.2.2.2.2.2.2.2.2.2.2.2.2.2.2.2.2.2.2.2.2.2.2.2.2.2.2.2.1) kk⟩
        | 40, _ => exact ⟨_, 1446, rfl, rfl, lw_c40 hL (by omega) hR (ha.2.2.2.2.2.2.2.2.2.2.2.2.2.2.2.2.2.2.2.2.2.2.2.2.2.2.2.2.2.2.2.2.2.2.2.2.2.2.2.2.1 _) kk⟩
        | 41, _ => exact ⟨_, 1469, rfl, rfl, lw_c41 hL (by omega) hR (ha.2.2.2.2.2.2.2.2.2.2.2.2.2.2.2.2.2.2.2.2.2.2.2.2.2.2.2.2.2.2.2.2.2.2.2.2.2.2.2.2.2 _) kk⟩
        | j + 42, hj => exact absurd hj (by simp)
