/-! TEXTS: what both readers stand on -/
def kx_CS (tx : Nat → Int32) (n u : Nat) (g : kv_S) (a ln : Nat) : Prop := g 48 2 = nI n ∧ g 48 3 = nI a ∧ g 48 4 = nI u ∧ (∀ j, j < n → g 52 j = tx j) ∧ g 49 2 = nI ln
def kx_CR (g g' : kv_S) (a1 : Nat) (ok : Bool) (ln : Nat) (cd : List Int32) : Prop := g' 48 3 = nI a1 ∧ (g' 48 2 = g 48 2 ∧ g' 48 4 = g 48 4) ∧ (∀ b, b ≠ 48 → b ≠ 49 → b ≠ 50 → g' b = g b) ∧ (ok = true → g' 49 2 = nI (ln + cd.length) ∧ (∀ j, j < ln → g' 50 j = g 50 j) ∧ ∀ j, j < cd.length → g' 50 (ln + j) = cd.getD j 0)
def kx_RS (tx : Nat → Int32) (n u : Nat) (g : kv_S) (a op : Nat) (A B C : Int32) : Prop := (g 65 7 = nI u ∧ g 65 8 = nI a ∧ g 65 9 = nI n ∧ g 65 10 = nI op) ∧ (g 65 11 = A ∧ g 65 12 = B ∧ g 65 13 = C) ∧ g 65 14 = 1 ∧ ∀ j, j < n → g 66 (168 + 50 * u + j) = tx j
def kx_RG (g g' : kv_S) (a1 op : Nat) (ok : Bool) : Prop := (∀ b, b ≠ 65 → g' b = g b) ∧ g' 65 8 = nI a1 ∧ g' 65 10 = nI op ∧ g' 65 14 = (if ok = true then 1 else 0) ∧ ∀ k, k ≠ 8 → k ≠ 10 → k ≠ 14 → g' 65 k = g 65 k
theorem kx_CS_of {tx : Nat → Int32} {n u a ln a1 : Nat} {g g' : kv_S} {cd : List Int32} (h : kx_CS tx n u g a ln) (r : kx_CR g g' a1 true ln cd) : kx_CS tx n u g' a1 (ln + cd.length) := ⟨r.2.1.1.trans h.1, r.1, r.2.1.2.trans h.2.2.1, fun j hj => by rw [r.2.2.1 52 (by omega) (by omega) (by omega)]; exact h.2.2.2.1 j hj, (r.2.2.2 rfl).1⟩
theorem kx_CR_t {g g1 g2 : kv_S} {a1 a2 ln : Nat} {ok : Bool} {c1 c2 : List Int32} (r : kx_CR g g1 a1 true ln c1) (r2 : kx_CR g1 g2 a2 ok (ln + c1.length) c2) : kx_CR g g2 a2 ok ln (c1 ++ c2) := by
  refine ⟨r2.1, ⟨r2.2.1.1.trans r.2.1.1, r2.2.1.2.trans r.2.1.2⟩, fun b b1 b2 b3 => (r2.2.2.1 b b1 b2 b3).trans (r.2.2.1 b b1 b2 b3), fun hok => ?_⟩
  obtain ⟨x1, x2, x3⟩ := r.2.2.2 rfl
  obtain ⟨y1, y2, y3⟩ := r2.2.2.2 hok
  refine ⟨by rw [y1, List.length_append]; congr 1; omega, fun j hj => (y2 j (by omega)).trans (x2 j hj), fun j hj => ?_⟩
  rw [List.length_append] at hj
  by_cases h : j < c1.length
  · rw [y2 (ln + j) (by omega), x3 j h, List.getD_eq_getElem?_getD, List.getD_eq_getElem?_getD, List.getElem?_append_left h]
  · have := y3 (j - c1.length) (by omega)
    rw [show ln + c1.length + (j - c1.length) = ln + j by omega] at this
    rw [this, List.getD_eq_getElem?_getD, List.getD_eq_getElem?_getD, List.getElem?_append_right (by omega)]
theorem kx_CR_f {g g1 g2 : kv_S} {a1 a2 ln ln2 : Nat} {c1 c2 c3 : List Int32} (r : kx_CR g g1 a1 true ln c1) (r2 : kx_CR g1 g2 a2 false ln2 c2) : kx_CR g g2 a2 false ln c3 := ⟨r2.1, ⟨r2.2.1.1.trans r.2.1.1, r2.2.1.2.trans r.2.1.2⟩, fun b b1 b2 b3 => (r2.2.2.1 b b1 b2 b3).trans (r.2.2.1 b b1 b2 b3), fun z => by cases z⟩
theorem kx_CR_0 {tx : Nat → Int32} {n u a ln : Nat} {g : kv_S} (h : kx_CS tx n u g a ln) (ok : Bool) : kx_CR g g a ok ln [] := ⟨h.2.1, ⟨rfl, rfl⟩, fun _ _ _ _ => rfl, fun _ => ⟨h.2.2.2.2, fun _ _ => rfl, fun j hj => by simp at hj⟩⟩
/-- one byte on, nothing written -/
theorem kx_CR_up {tx : Nat → Int32} {n u a ln : Nat} {g : kv_S} (h : kx_CS tx n u g a ln) (x : Int32) (hx : x = nI (a + 1)) : kx_CR g (kv_up g 48 3 x) (a + 1) true ln [] := ⟨hx, ⟨rfl, rfl⟩, fun b b1 _ _ => kv_up_ne b1, fun _ => ⟨h.2.2.2.2, fun _ _ => rfl, fun j hj => by simp at hj⟩⟩
theorem kx_RS_of {tx : Nat → Int32} {n u a op a1 op1 : Nat} {A B C : Int32} {g g' : kv_S} (h : kx_RS tx n u g a op A B C) (r : kx_RG g g' a1 op1 true) : kx_RS tx n u g' a1 op1 A B C := by
  obtain ⟨⟨h1, h2, h3, h4⟩, ⟨h5, h6, h7⟩, h8, h9⟩ := h
  obtain ⟨r1, r2, r3, r4, r5⟩ := r
  exact ⟨⟨(r5 7 (by omega) (by omega) (by omega)).trans h1, r2, (r5 9 (by omega) (by omega) (by omega)).trans h3, r3⟩, ⟨(r5 11 (by omega) (by omega) (by omega)).trans h5, (r5 12 (by omega) (by omega) (by omega)).trans h6, (r5 13 (by omega) (by omega) (by omega)).trans h7⟩, r4, fun j hj => by rw [r1 66 (by omega)]; exact h9 j hj⟩
theorem kx_RG_t {g g1 g2 : kv_S} {a1 a2 op1 op2 : Nat} {ok1 ok : Bool} (r : kx_RG g g1 a1 op1 ok1) (r2 : kx_RG g1 g2 a2 op2 ok) : kx_RG g g2 a2 op2 ok := ⟨fun b hb => (r2.1 b hb).trans (r.1 b hb), r2.2.1, r2.2.2.1, r2.2.2.2.1, fun k k1 k2 k3 => (r2.2.2.2.2 k k1 k2 k3).trans (r.2.2.2.2 k k1 k2 k3)⟩
theorem kx_RG_0 {tx : Nat → Int32} {n u a op : Nat} {A B C : Int32} {g : kv_S} (h : kx_RS tx n u g a op A B C) : kx_RG g g a op true := ⟨fun _ _ => rfl, h.1.2.1, h.1.2.2.2, h.2.2.1, fun _ _ _ _ => rfl⟩
theorem kx_RG_up {tx : Nat → Int32} {n u a op : Nat} {A B C : Int32} {g : kv_S} (h : kx_RS tx n u g a op A B C) (x : Int32) (hx : x = nI (a + 1)) : kx_RG g (kv_up g 65 8 x) (a + 1) op true := ⟨fun b hb => kv_up_ne hb, hx, h.1.2.2.2, h.2.2.1, fun k k8 _ _ => kx_upn k8⟩
/-- it fails here -/
theorem kx_RG_f {g : kv_S} {a op : Nat} (h8 : g 65 8 = nI a) (h10 : g 65 10 = nI op) : kx_RG g (kv_up g 65 14 0) a op false := ⟨fun b hb => kv_up_ne hb, h8, h10, rfl, fun k _ _ k14 => kx_upn k14⟩
def kx_bt (tx : Nat → Int32) (n k : Nat) : Int32 := if k < n then tx k else -1
set_option maxRecDepth 100000 in
theorem ev_add {E : kv_V} {d : Nat} {g : kv_S} {w : kv_W} (ln : Nat) (hl : g 49 2 = nI ln) (h50 : ln < 50) (x : Int32) : kv_ev E (d + 1) 38 [.ref 49, .int x] (kv_wd g w) none (kv_wd (kv_up (kv_up g 50 ln x) 49 2 (nI (ln + 1))) w) := by
  refine kx_ev (d := d + 0) (by decide) (Nat.le_of_ble_eq_true rfl) ?_
  refine kx_st 0 (pc' := 0) (L' := [some (.ref 49), some (.int x)]) (st' := []) (h' := kv_wd g w) rfl ?_
  refine kx_st 5 (pc' := 9) (L' := [some (.ref 49), some (.int x)]) (st' := [.int 50, .int (g 49 2)]) (h' := kv_wd g w) rfl ?_
  refine kx_bi (t := 32) rfl rfl (fun (h9 : 50 ≤ g 49 2) => ?_) (fun (h9 : ¬ (50 ≤ g 49 2)) => ?_)
  · exact absurd h9 (by rw [hl]; exact nI_ge (a := ln) (b := 50) h50 (by omega))
  · refine kx_st 0 (pc' := 12) (L' := [some (.ref 49), some (.int x)]) (st' := []) (h' := kv_wd g w) rfl ?_
    refine kx_st 5 (pc' := 21) (L' := [some (.ref 49), some (.int x)]) (st' := [.int x, .int (g 49 2), .ref 50]) (h' := kv_wd g w) rfl ?_
    refine kx_is (k := ln) rfl rfl (by decide) hl (by omega) (by decide) ?_
    refine kx_st 5 (pc' := 29) (L' := [some (.ref 49), some (.int x)]) (st' := [.int (((kv_up g 50 ln x) 49 2) + 1), .ref 49]) (h' := kv_wd (kv_up g 50 ln x) w) rfl ?_
    refine kx_pf (i := 17) (k := 2) (x := (((kv_up g 50 ln x) 49 2) + 1)) rfl rfl (by decide) rfl (Nat.le_of_ble_eq_true rfl) rfl rfl rfl ?_
    refine kx_ret (v := none) rfl ?_
    refine ⟨rfl, ?_⟩
    rw [show (kv_up g 50 ln x) 49 2 + 1 = nI (ln + 1) from by show g 49 2 + 1 = _; rw [hl, nI_succ]]
theorem kx_CR_add {tx : Nat → Int32} {n u a ln : Nat} {g : kv_S} (h : kx_CS tx n u g a ln) (x : Int32) : kx_CR g (kv_up (kv_up g 50 ln x) 49 2 (nI (ln + 1))) a true ln [x] := ⟨h.2.1, ⟨rfl, rfl⟩, fun b _ b2 b3 => by rw [kv_up_ne b2, kv_up_ne b3], fun _ => ⟨rfl, fun j hj => (show upd (g 50) ln x j = _ from kx_upn (by omega)), fun j hj => by
  have : j = 0 := by simp at hj; exact hj
  subst this
  exact (show upd (g 50) ln x ln = x from kx_ups)⟩⟩
set_option maxRecDepth 100000 in
theorem ev_isDigitX {E : kv_V} {d : Nat} {g : kv_S} {w : kv_W} (x : Int32) : kv_ev E (d + 1) 53 [.int x] (kv_wd g w) (some (.int (kx_b (48 ≤ x ∧ x ≤ 57)))) (kv_wd g w) := by
  refine kx_ev (d := d + 0) (by decide) (Nat.le_of_ble_eq_true rfl) ?_
  refine kx_st 0 (pc' := 0) (L' := [some (.int x)]) (st' := []) (h' := kv_wd g w) rfl ?_
  refine kx_st 2 (pc' := 3) (L' := [some (.int x)]) (st' := [.int 48, .int x]) (h' := kv_wd g w) rfl ?_
  refine kx_bi (t := 16) rfl rfl (fun (h3 : x < 48) => ?_) (fun (h3 : ¬ (x < 48)) => ?_)
  · refine kx_st 1 (pc' := 17) (L' := [some (.int x)]) (st' := [.int 0]) (h' := kv_wd g w) rfl ?_
    refine kx_ret (v := some (.int 0)) rfl ?_
    exact ⟨kx_l0 (fun z => Int32.not_lt.mpr z.1 h3), rfl⟩
  · refine kx_st 0 (pc' := 6) (L' := [some (.int x)]) (st' := []) (h' := kv_wd g w) rfl ?_
    refine kx_st 2 (pc' := 9) (L' := [some (.int x)]) (st' := [.int 57, .int x]) (h' := kv_wd g w) rfl ?_
    refine kx_bi (t := 16) rfl rfl (fun (h9 : 57 < x) => ?_) (fun (h9 : ¬ (57 < x)) => ?_)
    · refine kx_st 1 (pc' := 17) (L' := [some (.int x)]) (st' := [.int 0]) (h' := kv_wd g w) rfl ?_
      refine kx_ret (v := some (.int 0)) rfl ?_
      exact ⟨kx_l0 (fun z => Int32.not_lt.mpr z.2 h9), rfl⟩
    · refine kx_st 0 (pc' := 12) (L' := [some (.int x)]) (st' := []) (h' := kv_wd g w) rfl ?_
      refine kx_st 2 (pc' := 17) (L' := [some (.int x)]) (st' := [.int 1]) (h' := kv_wd g w) rfl ?_
      refine kx_ret (v := some (.int 1)) rfl ?_
      exact ⟨kx_l1 ⟨Int32.not_lt.mp h3, Int32.not_lt.mp h9⟩, rfl⟩
set_option maxRecDepth 100000 in
theorem ev_isDigitM {E : kv_V} {d : Nat} {g : kv_S} {w : kv_W} (x : Int32) : kv_ev E (d + 2) 156 [.int x] (kv_wd g w) (some (.int (kx_b (48 ≤ x ∧ x ≤ 57)))) (kv_wd g w) := by
  refine kx_ev (d := d + 1) (by decide) (Nat.le_of_ble_eq_true rfl) ?_
  refine kx_st 0 (pc' := 0) (L' := [some (.int x)]) (st' := []) (h' := kv_wd g w) rfl ?_
  refine kx_st 3 (pc' := 5) (L' := [some (.int x)]) (st' := [.int 57, .int 48, .int x]) (h' := kv_wd g w) rfl ?_
  refine kx_call (z := 130) (as := [.int x, .int 48, .int 57]) (rest := []) (v := some (.int (kx_b (48 ≤ x ∧ x ≤ 57)))) (h1 := kv_wd g w) rfl (ev_in (d := d) x 48 57) ?_
  refine kx_st 0 (pc' := 8) (L' := [some (.int x)]) (st' := [.int (kx_b (48 ≤ x ∧ x ≤ 57))]) (h' := kv_wd g w) rfl ?_
  refine kx_retb rfl rfl ?_
  exact ⟨rfl, rfl⟩
theorem kx_i168 (u k : Nat) : (168 : Int32) + 50 * nI u + nI k = nI (168 + 50 * u + k) := by
  rw [show (168 : Int32) = nI 168 from rfl, show (50 : Int32) = nI 50 from rfl, kx_nmul, kx_nadd, kx_nadd]
set_option maxRecDepth 100000 in
theorem ev_byteAt {E : kv_V} {d : Nat} {g : kv_S} {w : kv_W} {tx : Nat → Int32} {n u a op : Nat} {A B C : Int32} (h : kx_RS tx n u g a op A B C) (n50 : n ≤ 50) (u1 : u ≤ 1) (k : Nat) (hk : k ≤ 50) : kv_ev E (d + 1) 155 [.ref 65, .int (nI k)] (kv_wd g w) (some (.int (kx_bt tx n k))) (kv_wd g w) := by
  refine kx_ev (d := d + 0) (by decide) (Nat.le_of_ble_eq_true rfl) ?_
  refine kx_st 0 (pc' := 0) (L' := [some (.ref 65), some (.int (nI k))]) (st' := []) (h' := kv_wd g w) rfl ?_
  refine kx_st 3 (pc' := 5) (L' := [some (.ref 65), some (.int (nI k))]) (st' := [.int (g 65 9), .int (nI k)]) (h' := kv_wd g w) rfl ?_
  refine kx_bi (t := 29) rfl rfl (fun (h5 : g 65 9 ≤ nI k) => ?_) (fun (h5 : ¬ (g 65 9 ≤ nI k)) => ?_)
  · refine kx_st 1 (pc' := 30) (L' := [some (.ref 65), some (.int (nI k))]) (st' := [.int (-1)]) (h' := kv_wd g w) rfl ?_
    refine kx_ret (v := some (.int (-1))) rfl ?_
    have hkn : ¬ k < n := fun z => absurd (by rw [← h.1.2.2.1]; exact h5) (nI_ge (a := k) (b := n) z (by omega))
    exact ⟨by unfold kx_bt; rw [if_neg hkn], rfl⟩
  · refine kx_st 0 (pc' := 8) (L' := [some (.ref 65), some (.int (nI k))]) (st' := []) (h' := kv_wd g w) rfl ?_
    refine kx_st 10 (pc' := 25) (L' := [some (.ref 65), some (.int (nI k))]) (st' := [.int ((168 + (50 * (g 65 7))) + (nI k)), .ref 66]) (h' := kv_wd g w) rfl ?_
    refine kx_ia (k := (168 + 50 * u + k)) rfl rfl (by decide) (by rw [h.1.1]; exact kx_i168 u k) (by have hkn : k < n := Classical.not_not.mp (fun z => h5 (by rw [h.1.2.2.1]; exact nI_le (by omega) (by omega))); omega) (by decide) ?_
    refine kx_st 1 (pc' := 30) (L' := [some (.ref 65), some (.int (nI k))]) (st' := [.int (g 66 (168 + 50 * u + k))]) (h' := kv_wd g w) rfl ?_
    refine kx_ret (v := some (.int (g 66 (168 + 50 * u + k)))) rfl ?_
    have hkn : k < n := Classical.not_not.mp (fun z => h5 (by rw [h.1.2.2.1]; exact nI_le (by omega) (by omega)))
    exact ⟨by unfold kx_bt; rw [if_pos hkn, h.2.2.2 k hkn], rfl⟩
set_option maxRecDepth 100000 in
theorem ev_fails {E : kv_V} {d : Nat} {g : kv_S} {w : kv_W}  : kv_ev E (d + 1) 157 [.ref 65] (kv_wd g w) (some (.int 0)) (kv_wd (kv_up g 65 14 0) w) := by
  refine kx_ev (d := d + 0) (by decide) (Nat.le_of_ble_eq_true rfl) ?_
  refine kx_st 0 (pc' := 0) (L' := [some (.ref 65)]) (st' := []) (h' := kv_wd g w) rfl ?_
  refine kx_st 2 (pc' := 2) (L' := [some (.ref 65)]) (st' := [.int 0, .ref 65]) (h' := kv_wd g w) rfl ?_
  refine kx_pf (i := 109) (k := 14) (x := 0) rfl rfl (by decide) rfl (Nat.le_of_ble_eq_true rfl) rfl rfl rfl ?_
  refine kx_st 1 (pc' := 6) (L' := [some (.ref 65)]) (st' := [.int 0]) (h' := kv_wd (kv_up g 65 14 0) w) rfl ?_
  refine kx_ret (v := some (.int 0)) rfl ?_
  exact ⟨rfl, rfl⟩
/-- a number's end and value: at most fl digits -/
def kx_dg (tx : Nat → Int32) (n : Nat) : Nat → Nat → Nat → Nat × Nat
  | 0, a, v => (a, v)
  | fl + 1, a, v => if a < n ∧ 48 ≤ tx a ∧ tx a ≤ 57 then kx_dg tx n fl (a + 1) (10 * v + ((tx a).toNatClampNeg - 48)) else (a, v)
theorem kx_dg_b {tx : Nat → Int32} {n : Nat} : ∀ fl a v, a ≤ n → v < 10 ^ (4 - fl) → fl ≤ 4 → a ≤ (kx_dg tx n fl a v).1 ∧ (kx_dg tx n fl a v).1 ≤ n ∧ (kx_dg tx n fl a v).2 < 10000 := by
  intro fl
  induction fl with
  | zero => intro a v ha hv _; exact ⟨Nat.le_refl _, ha, hv⟩
  | succ fl ih =>
    intro a v ha hv hf
    by_cases h : a < n ∧ 48 ≤ tx a ∧ tx a ≤ 57
    · have e : kx_dg tx n (fl + 1) a v = kx_dg tx n fl (a + 1) (10 * v + ((tx a).toNatClampNeg - 48)) := if_pos h
      have hb : (tx a).toNatClampNeg - 48 ≤ 9 := by
        obtain ⟨k, hk, hk2⟩ := kx_nIof (n := 57) (Int32.le_trans (show (0 : Int32) ≤ 48 by decide) h.2.1) h.2.2 (by omega)
        rw [hk2, nI_clamp (by omega)]; omega
      have hp : 10 ^ (4 - fl) = 10 * 10 ^ (4 - (fl + 1)) := by rw [show 4 - fl = (4 - (fl + 1)) + 1 by omega, Nat.pow_succ]; omega
      have := ih (a + 1) (10 * v + ((tx a).toNatClampNeg - 48)) (by omega) (by omega) (by omega)
      rw [e]
      exact ⟨by omega, this.2.1, this.2.2⟩
    · rw [show kx_dg tx n (fl + 1) a v = (a, v) from if_neg h]
      exact ⟨Nat.le_refl _, ha, Nat.lt_of_lt_of_le hv (Nat.le_trans (Nat.pow_le_pow_right (by omega) (show 4 - (fl + 1) ≤ 4 by omega)) (by decide))⟩
theorem kx_dg_v {x : Int32} {v : Nat} (h : 48 ≤ x ∧ x ≤ 57) : 10 * nI v + x - 48 = nI (10 * v + (x.toNatClampNeg - 48)) := by
  obtain ⟨k, hk, rfl⟩ := kx_nIof (n := 57) (Int32.le_trans (show (0 : Int32) ≤ 48 by decide) h.1) h.2 (by omega)
  have h48 : 48 ≤ k := by
    have := h.1
    rw [show (48 : Int32) = nI 48 from rfl, nI_leI (by omega) (by omega)] at this
    exact this
  rw [nI_clamp (by omega), show (10 : Int32) = nI 10 from rfl, kx_nmul, kx_nadd, show 10 * v + k = (10 * v + (k - 48)) + 48 by omega, ← kx_nadd, show (48 : Int32) = nI 48 from rfl]
  grind
set_option maxRecDepth 100000 in
theorem lp_xnum {E : kv_V} {d : Nat} {w : kv_W} {tx : Nat → Int32} {n u ln : Nat} (n50 : n ≤ 50) {P : Option Value → kv_H → Prop} : ∀ (fl k a v : Nat) (g : kv_S), k + fl = 4 → a ≤ n → kx_CS tx n u g a ln → (∀ (g' : kv_S) (x2 : Option Value), kx_CR g g' (kx_dg tx n fl a v).1 true ln [] → kx_V E (d + 1) 52 69 [some (.ref 48), some (.int (nI (kx_dg tx n fl a v).2)), x2] [] (kv_wd g' w) P) → True → kx_V E (d + 1) 52 4 [some (.ref 48), some (.int (nI v)), some (.int (nI k))] [] (kv_wd g w) P := by
  intro fl
  induction fl with
  | zero =>
    intro k a v g hk han hs hP _
    have hk4 : k = 4 := by omega
    refine kx_st 2 (pc' := 6) (L' := [some (.ref 48), some (.int (nI v)), some (.int (nI k))]) (st' := [.int 4, .int (nI k)]) (h' := kv_wd g w) rfl ?_
    refine kx_bi (t := 69) rfl rfl (fun (h6 : 4 ≤ nI k) => ?_) (fun (h6 : ¬ (4 ≤ nI k)) => ?_)
    · exact hP g _ (kx_CR_0 hs true)
    · exact absurd (nI_le (a := 4) (b := k) (by omega) (by omega)) h6
  | succ fl ih =>
    intro k a v g hk han hs hP _
    by_cases hd : a < n ∧ 48 ≤ tx a ∧ tx a ≤ 57
    · refine kx_st 2 (pc' := 6) (L' := [some (.ref 48), some (.int (nI v)), some (.int (nI k))]) (st' := [.int 4, .int (nI k)]) (h' := kv_wd g w) rfl ?_
      refine kx_bi (t := 69) rfl rfl (fun (h6 : 4 ≤ nI k) => ?_) (fun (h6 : ¬ (4 ≤ nI k)) => ?_)
      · exact absurd h6 (nI_ge (a := k) (b := 4) (by omega) (by omega))
      · refine kx_st 0 (pc' := 9) (L' := [some (.ref 48), some (.int (nI v)), some (.int (nI k))]) (st' := []) (h' := kv_wd g w) rfl ?_
        refine kx_st 4 (pc' := 17) (L' := [some (.ref 48), some (.int (nI v)), some (.int (nI k))]) (st' := [.int (g 48 2), .int (g 48 3)]) (h' := kv_wd g w) rfl ?_
        refine kx_bi (t := 69) rfl rfl (fun (h17 : g 48 2 ≤ g 48 3) => ?_) (fun (h17 : ¬ (g 48 2 ≤ g 48 3)) => ?_)
        · exact absurd h17 (by rw [hs.2.1, hs.1]; exact nI_ge (a := a) (b := n) hd.1 (by omega))
        · refine kx_st 0 (pc' := 20) (L' := [some (.ref 48), some (.int (nI v)), some (.int (nI k))]) (st' := []) (h' := kv_wd g w) rfl ?_
          refine kx_st 4 (pc' := 28) (L' := [some (.ref 48), some (.int (nI v)), some (.int (nI k))]) (st' := [.int (g 48 3), .ref 52]) (h' := kv_wd g w) rfl ?_
          refine kx_ia (k := a) rfl rfl (by decide) hs.2.1 (by omega) (by decide) ?_
          refine kx_call (z := 53) (as := [.int (g 52 a)]) (rest := []) (v := some (.int (kx_b (48 ≤ g 52 a ∧ g 52 a ≤ 57)))) (h1 := kv_wd g w) rfl (ev_isDigitX (d := d) _) ?_
          refine kx_st 0 (pc' := 32) (L' := [some (.ref 48), some (.int (nI v)), some (.int (nI k))]) (st' := [.int (kx_b (48 ≤ g 52 a ∧ g 52 a ≤ 57))]) (h' := kv_wd g w) rfl ?_
          refine kx_be (t := 69) rfl rfl (fun (h32 : ¬ (48 ≤ g 52 a ∧ g 52 a ≤ 57)) => ?_) (fun (h32 : (48 ≤ g 52 a ∧ g 52 a ≤ 57)) => ?_)
          · exact absurd (by rw [hs.2.2.2.1 a hd.1]; exact hd.2) h32
          · refine kx_st 0 (pc' := 35) (L' := [some (.ref 48), some (.int (nI v)), some (.int (nI k))]) (st' := []) (h' := kv_wd g w) rfl ?_
            refine kx_st 7 (pc' := 47) (L' := [some (.ref 48), some (.int (nI v)), some (.int (nI k))]) (st' := [.int (g 48 3), .ref 52, .int (10 * (nI v))]) (h' := kv_wd g w) rfl ?_
            refine kx_ia (k := a) rfl rfl (by decide) hs.2.1 (by omega) (by decide) ?_
            refine kx_st 9 (pc' := 60) (L' := [some (.ref 48), some (.int (((10 * (nI v)) + (g 52 a)) - 48)), some (.int (nI k))]) (st' := [.int ((g 48 3) + 1), .ref 48]) (h' := kv_wd g w) rfl ?_
            refine kx_pf (i := 28) (k := 3) (x := ((g 48 3) + 1)) rfl rfl (by decide) rfl (Nat.le_of_ble_eq_true rfl) rfl rfl rfl ?_
            refine kx_st 2 (pc' := 4) (L' := [some (.ref 48), some (.int (((10 * (nI v)) + (g 52 a)) - 48)), some (.int ((nI k) + 1))]) (st' := []) (h' := kv_wd (kv_up g 48 3 ((g 48 3) + 1)) w) rfl ?_
            rw [show g 52 a = tx a from hs.2.2.2.1 a hd.1, kx_dg_v hd.2, ← nI_succ]
            have r1 := kx_CR_up hs (g 48 3 + 1) (by rw [hs.2.1, nI_succ])
            refine ih (k + 1) (a + 1) _ _ (by omega) (by omega) (kx_CS_of hs r1) (fun g' x2 r2 => ?_) trivial
            have z := hP g' x2
            rw [show kx_dg tx n (fl + 1) a v = kx_dg tx n fl (a + 1) (10 * v + ((tx a).toNatClampNeg - 48)) from if_pos hd] at z
            exact z (kx_CR_t r1 r2)
    · refine kx_st 2 (pc' := 6) (L' := [some (.ref 48), some (.int (nI v)), some (.int (nI k))]) (st' := [.int 4, .int (nI k)]) (h' := kv_wd g w) rfl ?_
      refine kx_bi (t := 69) rfl rfl (fun (h6 : 4 ≤ nI k) => ?_) (fun (h6 : ¬ (4 ≤ nI k)) => ?_)
      · exact absurd h6 (nI_ge (a := k) (b := 4) (by omega) (by omega))
      · refine kx_st 0 (pc' := 9) (L' := [some (.ref 48), some (.int (nI v)), some (.int (nI k))]) (st' := []) (h' := kv_wd g w) rfl ?_
        refine kx_st 4 (pc' := 17) (L' := [some (.ref 48), some (.int (nI v)), some (.int (nI k))]) (st' := [.int (g 48 2), .int (g 48 3)]) (h' := kv_wd g w) rfl ?_
        refine kx_bi (t := 69) rfl rfl (fun (h17 : g 48 2 ≤ g 48 3) => ?_) (fun (h17 : ¬ (g 48 2 ≤ g 48 3)) => ?_)
        · have z := hP g (some (.int (nI k))) 
          rw [show kx_dg tx n (fl + 1) a v = (a, v) from if_neg hd] at z
          exact z (kx_CR_0 hs true)
        · refine kx_st 0 (pc' := 20) (L' := [some (.ref 48), some (.int (nI v)), some (.int (nI k))]) (st' := []) (h' := kv_wd g w) rfl ?_
          refine kx_st 4 (pc' := 28) (L' := [some (.ref 48), some (.int (nI v)), some (.int (nI k))]) (st' := [.int (g 48 3), .ref 52]) (h' := kv_wd g w) rfl ?_
          refine kx_ia (k := a) rfl rfl (by decide) hs.2.1 (by have : a < n := Classical.not_not.mp (fun z => h17 (by rw [hs.2.1, hs.1]; exact nI_le (by omega) (by omega))); omega) (by decide) ?_
          refine kx_call (z := 53) (as := [.int (g 52 a)]) (rest := []) (v := some (.int (kx_b (48 ≤ g 52 a ∧ g 52 a ≤ 57)))) (h1 := kv_wd g w) rfl (ev_isDigitX (d := d) _) ?_
          refine kx_st 0 (pc' := 32) (L' := [some (.ref 48), some (.int (nI v)), some (.int (nI k))]) (st' := [.int (kx_b (48 ≤ g 52 a ∧ g 52 a ≤ 57))]) (h' := kv_wd g w) rfl ?_
          refine kx_be (t := 69) rfl rfl (fun (h32 : ¬ (48 ≤ g 52 a ∧ g 52 a ≤ 57)) => ?_) (fun (h32 : (48 ≤ g 52 a ∧ g 52 a ≤ 57)) => ?_)
          · have z := hP g (some (.int (nI k))) 
            rw [show kx_dg tx n (fl + 1) a v = (a, v) from if_neg hd] at z
            exact z (kx_CR_0 hs true)
          · exact absurd ⟨Classical.not_not.mp (fun z => h17 (by rw [hs.2.1, hs.1]; exact nI_le (by omega) (by omega))), by rw [hs.2.2.2.1 a (Classical.not_not.mp (fun z => h17 (by rw [hs.2.1, hs.1]; exact nI_le (by omega) (by omega))))] at h32; exact h32⟩ hd
theorem kx_bt_d {tx : Nat → Int32} {n a : Nat} (h : 48 ≤ kx_bt tx n a ∧ kx_bt tx n a ≤ 57) : a < n ∧ 48 ≤ tx a ∧ tx a ≤ 57 := by
  unfold kx_bt at h
  by_cases z : a < n
  · rw [if_pos z] at h; exact ⟨z, h⟩
  · rw [if_neg z] at h; exact absurd h.1 (by decide)
set_option maxRecDepth 100000 in
theorem lp_mnum {E : kv_V} {d : Nat} {w : kv_W} {tx : Nat → Int32} {n u op : Nat} {A B C : Int32} (n50 : n ≤ 50) (u1 : u ≤ 1) {P : Option Value → kv_H → Prop} : ∀ (fl k a v : Nat) (g : kv_S), k + fl = 4 → a ≤ n → kx_RS tx n u g a op A B C → (∀ (g' : kv_S), kx_RG g g' (kx_dg tx n fl a v).1 op true → P (some (.int (nI (kx_dg tx n fl a v).2))) (kv_wd g' w)) → kx_V E (d + 2) 158 4 [some (.ref 65), some (.int (nI v)), some (.int (nI k))] [] (kv_wd g w) P := by
  intro fl
  induction fl with
  | zero =>
    intro k a v g hk han hs hP
    refine kx_st 2 (pc' := 6) (L' := [some (.ref 65), some (.int (nI v)), some (.int (nI k))]) (st' := [.int 4, .int (nI k)]) (h' := kv_wd g w) rfl ?_
    refine kx_bi (t := 56) rfl rfl (fun (h6 : 4 ≤ nI k) => ?_) (fun (h6 : ¬ (4 ≤ nI k)) => ?_)
    · refine kx_st 1 (pc' := 57) (L' := [some (.ref 65), some (.int (nI v)), some (.int (nI k))]) (st' := [.int (nI v)]) (h' := kv_wd g w) rfl ?_
      refine kx_ret (v := some (.int (nI v))) rfl ?_
      exact hP g (kx_RG_0 hs)
    · exact absurd (nI_le (a := 4) (b := k) (by omega) (by omega)) h6
  | succ fl ih =>
    intro k a v g hk han hs hP
    have eb := ev_byteAt (E := E) (d := d + 1) (w := w) hs n50 u1 a (by omega)
    by_cases hd : a < n ∧ 48 ≤ tx a ∧ tx a ≤ 57
    · refine kx_st 2 (pc' := 6) (L' := [some (.ref 65), some (.int (nI v)), some (.int (nI k))]) (st' := [.int 4, .int (nI k)]) (h' := kv_wd g w) rfl ?_
      refine kx_bi (t := 56) rfl rfl (fun (h6 : 4 ≤ nI k) => ?_) (fun (h6 : ¬ (4 ≤ nI k)) => ?_)
      · exact absurd h6 (nI_ge (a := k) (b := 4) (by omega) (by omega))
      · refine kx_st 0 (pc' := 9) (L' := [some (.ref 65), some (.int (nI v)), some (.int (nI k))]) (st' := []) (h' := kv_wd g w) rfl ?_
        refine kx_st 3 (pc' := 14) (L' := [some (.ref 65), some (.int (nI v)), some (.int (nI k))]) (st' := [.int (g 65 8), .ref 65]) (h' := kv_wd g w) rfl ?_
        refine kx_call (z := 155) (as := [.ref 65, .int (g 65 8)]) (rest := []) (v := some (.int (kx_bt tx n a))) (h1 := kv_wd g w) rfl (by rw [show g 65 8 = nI a from hs.1.2.1]; exact eb) ?_
        refine kx_st 0 (pc' := 17) (L' := [some (.ref 65), some (.int (nI v)), some (.int (nI k))]) (st' := [.int (kx_bt tx n a)]) (h' := kv_wd g w) rfl ?_
        refine kx_call (z := 156) (as := [.int (kx_bt tx n a)]) (rest := []) (v := some (.int (kx_b (48 ≤ kx_bt tx n a ∧ kx_bt tx n a ≤ 57)))) (h1 := kv_wd g w) rfl (ev_isDigitM (d := d) _) ?_
        refine kx_st 0 (pc' := 20) (L' := [some (.ref 65), some (.int (nI v)), some (.int (nI k))]) (st' := [.int (kx_b (48 ≤ kx_bt tx n a ∧ kx_bt tx n a ≤ 57))]) (h' := kv_wd g w) rfl ?_
        refine kx_be (t := 56) rfl rfl (fun (h20 : ¬ (48 ≤ kx_bt tx n a ∧ kx_bt tx n a ≤ 57)) => ?_) (fun (h20 : (48 ≤ kx_bt tx n a ∧ kx_bt tx n a ≤ 57)) => ?_)
        · exact absurd (by rw [(show kx_bt tx n a = tx a from if_pos hd.1)]; exact hd.2) h20
        · refine kx_st 0 (pc' := 23) (L' := [some (.ref 65), some (.int (nI v)), some (.int (nI k))]) (st' := []) (h' := kv_wd g w) rfl ?_
          refine kx_st 6 (pc' := 32) (L' := [some (.ref 65), some (.int (nI v)), some (.int (nI k))]) (st' := [.int (g 65 8), .ref 65, .int (10 * (nI v))]) (h' := kv_wd g w) rfl ?_
          refine kx_call (z := 155) (as := [.ref 65, .int (g 65 8)]) (rest := [.int (10 * (nI v))]) (v := some (.int (kx_bt tx n a))) (h1 := kv_wd g w) rfl (by rw [show g 65 8 = nI a from hs.1.2.1]; exact eb) ?_
          refine kx_st 0 (pc' := 35) (L' := [some (.ref 65), some (.int (nI v)), some (.int (nI k))]) (st' := [.int (kx_bt tx n a), .int (10 * (nI v))]) (h' := kv_wd g w) rfl ?_
          refine kx_st 9 (pc' := 47) (L' := [some (.ref 65), some (.int (((10 * (nI v)) + (kx_bt tx n a)) - 48)), some (.int (nI k))]) (st' := [.int ((g 65 8) + 1), .ref 65]) (h' := kv_wd g w) rfl ?_
          refine kx_pf (i := 113) (k := 8) (x := ((g 65 8) + 1)) rfl rfl (by decide) rfl (Nat.le_of_ble_eq_true rfl) rfl rfl rfl ?_
          refine kx_st 2 (pc' := 4) (L' := [some (.ref 65), some (.int (((10 * (nI v)) + (kx_bt tx n a)) - 48)), some (.int ((nI k) + 1))]) (st' := []) (h' := kv_wd (kv_up g 65 8 ((g 65 8) + 1)) w) rfl ?_
          rw [(show kx_bt tx n a = tx a from if_pos hd.1), kx_dg_v hd.2, ← nI_succ]
          have r1 := kx_RG_up hs (g 65 8 + 1) (by rw [hs.1.2.1, nI_succ])
          refine ih (k + 1) (a + 1) _ _ (by omega) (by omega) (kx_RS_of hs r1) (fun g' r2 => ?_)
          have z := hP g'
          rw [show kx_dg tx n (fl + 1) a v = kx_dg tx n fl (a + 1) (10 * v + ((tx a).toNatClampNeg - 48)) from if_pos hd] at z
          exact z (kx_RG_t r1 r2)
    · refine kx_st 2 (pc' := 6) (L' := [some (.ref 65), some (.int (nI v)), some (.int (nI k))]) (st' := [.int 4, .int (nI k)]) (h' := kv_wd g w) rfl ?_
      refine kx_bi (t := 56) rfl rfl (fun (h6 : 4 ≤ nI k) => ?_) (fun (h6 : ¬ (4 ≤ nI k)) => ?_)
      · exact absurd h6 (nI_ge (a := k) (b := 4) (by omega) (by omega))
      · refine kx_st 0 (pc' := 9) (L' := [some (.ref 65), some (.int (nI v)), some (.int (nI k))]) (st' := []) (h' := kv_wd g w) rfl ?_
        refine kx_st 3 (pc' := 14) (L' := [some (.ref 65), some (.int (nI v)), some (.int (nI k))]) (st' := [.int (g 65 8), .ref 65]) (h' := kv_wd g w) rfl ?_
        refine kx_call (z := 155) (as := [.ref 65, .int (g 65 8)]) (rest := []) (v := some (.int (kx_bt tx n a))) (h1 := kv_wd g w) rfl (by rw [show g 65 8 = nI a from hs.1.2.1]; exact eb) ?_
        refine kx_st 0 (pc' := 17) (L' := [some (.ref 65), some (.int (nI v)), some (.int (nI k))]) (st' := [.int (kx_bt tx n a)]) (h' := kv_wd g w) rfl ?_
        refine kx_call (z := 156) (as := [.int (kx_bt tx n a)]) (rest := []) (v := some (.int (kx_b (48 ≤ kx_bt tx n a ∧ kx_bt tx n a ≤ 57)))) (h1 := kv_wd g w) rfl (ev_isDigitM (d := d) _) ?_
        refine kx_st 0 (pc' := 20) (L' := [some (.ref 65), some (.int (nI v)), some (.int (nI k))]) (st' := [.int (kx_b (48 ≤ kx_bt tx n a ∧ kx_bt tx n a ≤ 57))]) (h' := kv_wd g w) rfl ?_
        refine kx_be (t := 56) rfl rfl (fun (h20 : ¬ (48 ≤ kx_bt tx n a ∧ kx_bt tx n a ≤ 57)) => ?_) (fun (h20 : (48 ≤ kx_bt tx n a ∧ kx_bt tx n a ≤ 57)) => ?_)
        · refine kx_st 1 (pc' := 57) (L' := [some (.ref 65), some (.int (nI v)), some (.int (nI k))]) (st' := [.int (nI v)]) (h' := kv_wd g w) rfl ?_
          refine kx_ret (v := some (.int (nI v))) rfl ?_
          have z := hP g
          rw [show kx_dg tx n (fl + 1) a v = (a, v) from if_neg hd] at z
          exact z (kx_RG_0 hs)
        · exact absurd (kx_bt_d h20) hd
set_option maxRecDepth 100000 in
theorem ev_readNumber {E : kv_V} {d : Nat} {g : kv_S} {w : kv_W} {tx : Nat → Int32} {n u a ln : Nat} (n50 : n ≤ 50) (han : a ≤ n) (hs : kx_CS tx n u g a ln) (hl : ln < 50) : ∃ g' : kv_S, kv_ev E (d + 2) 52 [.ref 48] (kv_wd g w) none (kv_wd g' w) ∧ kx_CR g g' (kx_dg tx n 4 a 0).1 true ln [nI (kx_dg tx n 4 a 0).2] := by
  obtain ⟨v, hf, he, rfl, g', rfl, hh⟩ := kx_evP (E := E) (d := d + 1) (y := 52) (h := kv_wd g w) (as := [.ref 48]) (P := fun v h => v = none ∧ ∃ g' : kv_S, h = kv_wd g' w ∧ kx_CR g g' (kx_dg tx n 4 a 0).1 true ln [nI (kx_dg tx n 4 a 0).2]) (by decide) (Nat.le_of_ble_eq_true rfl) (by
    refine kx_st 4 (pc' := 4) (L' := [some (.ref 48), some (.int (nI 0)), some (.int (nI 0))]) (st' := []) (h' := kv_wd g w) rfl ?_
    refine lp_xnum (d := d) n50 4 0 a 0 g rfl han hs (fun g1 x2 r1 => ?_) trivial
    refine kx_st 3 (pc' := 74) (L' := [some (.ref 48), some (.int (nI (kx_dg tx n 4 a 0).2)), x2]) (st' := [.int (nI (kx_dg tx n 4 a 0).2), .ref 49]) (h' := kv_wd g1 w) rfl ?_
    refine kx_call (z := 38) (as := [.ref 49, .int (nI (kx_dg tx n 4 a 0).2)]) (rest := []) (v := none) (h1 := kv_wd (kv_up (kv_up g1 50 ln (nI (kx_dg tx n 4 a 0).2)) 49 2 (nI (ln + 1))) w) rfl (ev_add (d := d) ln (kx_CS_of hs r1).2.2.2.2 hl _) ?_
    refine kx_st 0 (pc' := 77) (L' := [some (.ref 48), some (.int (nI (kx_dg tx n 4 a 0).2)), x2]) (st' := []) (h' := kv_wd (kv_up (kv_up g1 50 ln (nI (kx_dg tx n 4 a 0).2)) 49 2 (nI (ln + 1))) w) rfl ?_
    refine kx_ret (v := none) rfl ?_
    exact ⟨rfl, _, rfl, kx_CR_t r1 (kx_CR_add (kx_CS_of hs r1) _)⟩)
  exact ⟨g', he, hh⟩
set_option maxRecDepth 100000 in
theorem ev_number {E : kv_V} {d : Nat} {g : kv_S} {w : kv_W} {tx : Nat → Int32} {n u a op : Nat} {A B C : Int32} (n50 : n ≤ 50) (u1 : u ≤ 1) (han : a ≤ n) (hs : kx_RS tx n u g a op A B C) : ∃ g' : kv_S, kv_ev E (d + 3) 158 [.ref 65] (kv_wd g w) (some (.int (nI (kx_dg tx n 4 a 0).2))) (kv_wd g' w) ∧ kx_RG g g' (kx_dg tx n 4 a 0).1 op true := by
  obtain ⟨v, hf, he, rfl, g', rfl, hh⟩ := kx_evP (E := E) (d := d + 2) (y := 158) (h := kv_wd g w) (as := [.ref 65]) (P := fun v h => v = some (.int (nI (kx_dg tx n 4 a 0).2)) ∧ ∃ g' : kv_S, h = kv_wd g' w ∧ kx_RG g g' (kx_dg tx n 4 a 0).1 op true) (by decide) (Nat.le_of_ble_eq_true rfl) (by
    refine kx_st 4 (pc' := 4) (L' := [some (.ref 65), some (.int (nI 0)), some (.int (nI 0))]) (st' := []) (h' := kv_wd g w) rfl ?_
    exact lp_mnum (d := d) n50 u1 4 0 a 0 g rfl han hs (fun g1 r1 => ⟨rfl, g1, rfl, r1⟩))
  exact ⟨g', he, hh⟩
set_option maxRecDepth 100000 in
theorem ev_nameOf_0 {E : kv_V} {d : Nat} {g : kv_S} {w : kv_W} (hE : E 1002 = some (1, 6, kv_NA)) (hu : g 48 4 = 0) (x : Int32) : kv_ev E (d + 1) 54 [.ref 48, .int x] (kv_wd g w) (some (.int (if x = 118 then 1 else if x = 107 then 2 else if x = 121 then 3 else 0))) (kv_wd g w) := by
  refine kx_ev (d := d + 0) (by decide) (Nat.le_of_ble_eq_true rfl) ?_
  refine kx_st 0 (pc' := 0) (L' := [some (.ref 48), some (.int x), none, none]) (st' := []) (h' := kv_wd g w) rfl ?_
  refine kx_st 4 (pc' := 4) (L' := [some (.ref 48), some (.int x), some (.int 0), none]) (st' := [.int 3, .int 0]) (h' := kv_wd g w) rfl ?_
  refine kx_st 1 (pc' := 7) (L' := [some (.ref 48), some (.int x), some (.int 0), none]) (st' := []) (h' := kv_wd g w) rfl ?_
  refine kx_st 3 (pc' := 12) (L' := [some (.ref 48), some (.int x), some (.int 0), none]) (st' := [.int (g 48 4), .int 3]) (h' := kv_wd g w) rfl ?_
  rw [show g 48 4 = 0 from hu]
  refine kx_st 5 (pc' := 17) (L' := [some (.ref 48), some (.int x), some (.int 0), some (.int 0)]) (st' := [.int 0]) (h' := kv_wd g w) rfl ?_
  refine kx_st 1 (pc' := 20) (L' := [some (.ref 48), some (.int x), some (.int 0), some (.int 0)]) (st' := []) (h' := kv_wd g w) rfl ?_
  refine kx_st 2 (pc' := 24) (L' := [some (.ref 48), some (.int x), some (.int 0), some (.int 0)]) (st' := [.ref 1002, .int 0]) (h' := kv_wd g w) rfl ?_
  refine kx_aE (n := 6) rfl hE (by decide) ?_
  refine kx_st 1 (pc' := 28) (L' := [some (.ref 48), some (.int x), some (.int 0), some (.int 0)]) (st' := []) (h' := kv_wd g w) rfl ?_
  refine kx_st 2 (pc' := 32) (L' := [some (.ref 48), some (.int x), some (.int 0), some (.int 0)]) (st' := [.int 0, .ref 1002]) (h' := kv_wd g w) rfl ?_
  refine kx_cE (k := 0) (f := kv_NA) rfl hE (by decide) rfl (by decide) (by omega) ?_
  refine kx_st 0 (pc' := 33) (L' := [some (.ref 48), some (.int x), some (.int 0), some (.int 0)]) (st' := [.int 118]) (h' := kv_wd g w) rfl ?_
  refine kx_st 1 (pc' := 34) (L' := [some (.ref 48), some (.int x), some (.int 0), some (.int 0)]) (st' := [.int x, .int 118]) (h' := kv_wd g w) rfl ?_
  refine kx_bi (t := 41) rfl rfl (fun (h34 : ¬ 118 = x) => ?_) (fun (h34 : ¬ (¬ 118 = x)) => ?_)
  · refine kx_st 4 (pc' := 4) (L' := [some (.ref 48), some (.int x), some (.int 1), some (.int 0)]) (st' := [.int 3, .int 1]) (h' := kv_wd g w) rfl ?_
    refine kx_st 1 (pc' := 7) (L' := [some (.ref 48), some (.int x), some (.int 1), some (.int 0)]) (st' := []) (h' := kv_wd g w) rfl ?_
    refine kx_st 3 (pc' := 12) (L' := [some (.ref 48), some (.int x), some (.int 1), some (.int 0)]) (st' := [.int (g 48 4), .int 3]) (h' := kv_wd g w) rfl ?_
    rw [show g 48 4 = 0 from hu]
    refine kx_st 5 (pc' := 17) (L' := [some (.ref 48), some (.int x), some (.int 1), some (.int 1)]) (st' := [.int 1]) (h' := kv_wd g w) rfl ?_
    refine kx_st 1 (pc' := 20) (L' := [some (.ref 48), some (.int x), some (.int 1), some (.int 1)]) (st' := []) (h' := kv_wd g w) rfl ?_
    refine kx_st 2 (pc' := 24) (L' := [some (.ref 48), some (.int x), some (.int 1), some (.int 1)]) (st' := [.ref 1002, .int 1]) (h' := kv_wd g w) rfl ?_
    refine kx_aE (n := 6) rfl hE (by decide) ?_
    refine kx_st 1 (pc' := 28) (L' := [some (.ref 48), some (.int x), some (.int 1), some (.int 1)]) (st' := []) (h' := kv_wd g w) rfl ?_
    refine kx_st 2 (pc' := 32) (L' := [some (.ref 48), some (.int x), some (.int 1), some (.int 1)]) (st' := [.int 1, .ref 1002]) (h' := kv_wd g w) rfl ?_
    refine kx_cE (k := 1) (f := kv_NA) rfl hE (by decide) rfl (by decide) (by omega) ?_
    refine kx_st 0 (pc' := 33) (L' := [some (.ref 48), some (.int x), some (.int 1), some (.int 1)]) (st' := [.int 107]) (h' := kv_wd g w) rfl ?_
    refine kx_st 1 (pc' := 34) (L' := [some (.ref 48), some (.int x), some (.int 1), some (.int 1)]) (st' := [.int x, .int 107]) (h' := kv_wd g w) rfl ?_
    refine kx_bi (t := 41) rfl rfl (fun (h34_1 : ¬ 107 = x) => ?_) (fun (h34_1 : ¬ (¬ 107 = x)) => ?_)
    · refine kx_st 4 (pc' := 4) (L' := [some (.ref 48), some (.int x), some (.int 2), some (.int 1)]) (st' := [.int 3, .int 2]) (h' := kv_wd g w) rfl ?_
      refine kx_st 1 (pc' := 7) (L' := [some (.ref 48), some (.int x), some (.int 2), some (.int 1)]) (st' := []) (h' := kv_wd g w) rfl ?_
      refine kx_st 3 (pc' := 12) (L' := [some (.ref 48), some (.int x), some (.int 2), some (.int 1)]) (st' := [.int (g 48 4), .int 3]) (h' := kv_wd g w) rfl ?_
      rw [show g 48 4 = 0 from hu]
      refine kx_st 5 (pc' := 17) (L' := [some (.ref 48), some (.int x), some (.int 2), some (.int 2)]) (st' := [.int 2]) (h' := kv_wd g w) rfl ?_
      refine kx_st 1 (pc' := 20) (L' := [some (.ref 48), some (.int x), some (.int 2), some (.int 2)]) (st' := []) (h' := kv_wd g w) rfl ?_
      refine kx_st 2 (pc' := 24) (L' := [some (.ref 48), some (.int x), some (.int 2), some (.int 2)]) (st' := [.ref 1002, .int 2]) (h' := kv_wd g w) rfl ?_
      refine kx_aE (n := 6) rfl hE (by decide) ?_
      refine kx_st 1 (pc' := 28) (L' := [some (.ref 48), some (.int x), some (.int 2), some (.int 2)]) (st' := []) (h' := kv_wd g w) rfl ?_
      refine kx_st 2 (pc' := 32) (L' := [some (.ref 48), some (.int x), some (.int 2), some (.int 2)]) (st' := [.int 2, .ref 1002]) (h' := kv_wd g w) rfl ?_
      refine kx_cE (k := 2) (f := kv_NA) rfl hE (by decide) rfl (by decide) (by omega) ?_
      refine kx_st 0 (pc' := 33) (L' := [some (.ref 48), some (.int x), some (.int 2), some (.int 2)]) (st' := [.int 121]) (h' := kv_wd g w) rfl ?_
      refine kx_st 1 (pc' := 34) (L' := [some (.ref 48), some (.int x), some (.int 2), some (.int 2)]) (st' := [.int x, .int 121]) (h' := kv_wd g w) rfl ?_
      refine kx_bi (t := 41) rfl rfl (fun (h34_2 : ¬ 121 = x) => ?_) (fun (h34_2 : ¬ (¬ 121 = x)) => ?_)
      · refine kx_st 4 (pc' := 4) (L' := [some (.ref 48), some (.int x), some (.int 3), some (.int 2)]) (st' := [.int 3, .int 3]) (h' := kv_wd g w) rfl ?_
        refine kx_st 1 (pc' := 47) (L' := [some (.ref 48), some (.int x), some (.int 3), some (.int 2)]) (st' := []) (h' := kv_wd g w) rfl ?_
        refine kx_st 1 (pc' := 48) (L' := [some (.ref 48), some (.int x), some (.int 3), some (.int 2)]) (st' := [.int 0]) (h' := kv_wd g w) rfl ?_
        refine kx_ret (v := some (.int 0)) rfl ?_
        refine ⟨?_, rfl⟩
        have e : (0 : Int32) = if x = 118 then 1 else if x = 107 then 2 else if x = 121 then 3 else 0 := by grind
        exact congrArg (fun z => some (Value.int z)) e
      · refine kx_st 0 (pc' := 37) (L' := [some (.ref 48), some (.int x), some (.int 2), some (.int 2)]) (st' := []) (h' := kv_wd g w) rfl ?_
        refine kx_st 3 (pc' := 40) (L' := [some (.ref 48), some (.int x), some (.int 2), some (.int 2)]) (st' := [.int 3]) (h' := kv_wd g w) rfl ?_
        refine kx_ret (v := some (.int 3)) rfl ?_
        refine ⟨?_, rfl⟩
        have e : (3 : Int32) = if x = 118 then 1 else if x = 107 then 2 else if x = 121 then 3 else 0 := by grind
        exact congrArg (fun z => some (Value.int z)) e
    · refine kx_st 0 (pc' := 37) (L' := [some (.ref 48), some (.int x), some (.int 1), some (.int 1)]) (st' := []) (h' := kv_wd g w) rfl ?_
      refine kx_st 3 (pc' := 40) (L' := [some (.ref 48), some (.int x), some (.int 1), some (.int 1)]) (st' := [.int 2]) (h' := kv_wd g w) rfl ?_
      refine kx_ret (v := some (.int 2)) rfl ?_
      refine ⟨?_, rfl⟩
      have e : (2 : Int32) = if x = 118 then 1 else if x = 107 then 2 else if x = 121 then 3 else 0 := by grind
      exact congrArg (fun z => some (Value.int z)) e
  · refine kx_st 0 (pc' := 37) (L' := [some (.ref 48), some (.int x), some (.int 0), some (.int 0)]) (st' := []) (h' := kv_wd g w) rfl ?_
    refine kx_st 3 (pc' := 40) (L' := [some (.ref 48), some (.int x), some (.int 0), some (.int 0)]) (st' := [.int 1]) (h' := kv_wd g w) rfl ?_
    refine kx_ret (v := some (.int 1)) rfl ?_
    refine ⟨?_, rfl⟩
    have e : (1 : Int32) = if x = 118 then 1 else if x = 107 then 2 else if x = 121 then 3 else 0 := by grind
    exact congrArg (fun z => some (Value.int z)) e
set_option maxRecDepth 100000 in
theorem ev_nameOf_1 {E : kv_V} {d : Nat} {g : kv_S} {w : kv_W} (hE : E 1002 = some (1, 6, kv_NA)) (hu : g 48 4 = 1) (x : Int32) : kv_ev E (d + 1) 54 [.ref 48, .int x] (kv_wd g w) (some (.int (if x = 100 then 1 else if x = 109 then 2 else if x = 108 then 3 else 0))) (kv_wd g w) := by
  refine kx_ev (d := d + 0) (by decide) (Nat.le_of_ble_eq_true rfl) ?_
  refine kx_st 0 (pc' := 0) (L' := [some (.ref 48), some (.int x), none, none]) (st' := []) (h' := kv_wd g w) rfl ?_
  refine kx_st 4 (pc' := 4) (L' := [some (.ref 48), some (.int x), some (.int 0), none]) (st' := [.int 3, .int 0]) (h' := kv_wd g w) rfl ?_
  refine kx_st 1 (pc' := 7) (L' := [some (.ref 48), some (.int x), some (.int 0), none]) (st' := []) (h' := kv_wd g w) rfl ?_
  refine kx_st 3 (pc' := 12) (L' := [some (.ref 48), some (.int x), some (.int 0), none]) (st' := [.int (g 48 4), .int 3]) (h' := kv_wd g w) rfl ?_
  rw [show g 48 4 = 1 from hu]
  refine kx_st 5 (pc' := 17) (L' := [some (.ref 48), some (.int x), some (.int 0), some (.int 3)]) (st' := [.int 3]) (h' := kv_wd g w) rfl ?_
  refine kx_st 1 (pc' := 20) (L' := [some (.ref 48), some (.int x), some (.int 0), some (.int 3)]) (st' := []) (h' := kv_wd g w) rfl ?_
  refine kx_st 2 (pc' := 24) (L' := [some (.ref 48), some (.int x), some (.int 0), some (.int 3)]) (st' := [.ref 1002, .int 3]) (h' := kv_wd g w) rfl ?_
  refine kx_aE (n := 6) rfl hE (by decide) ?_
  refine kx_st 1 (pc' := 28) (L' := [some (.ref 48), some (.int x), some (.int 0), some (.int 3)]) (st' := []) (h' := kv_wd g w) rfl ?_
  refine kx_st 2 (pc' := 32) (L' := [some (.ref 48), some (.int x), some (.int 0), some (.int 3)]) (st' := [.int 3, .ref 1002]) (h' := kv_wd g w) rfl ?_
  refine kx_cE (k := 3) (f := kv_NA) rfl hE (by decide) rfl (by decide) (by omega) ?_
  refine kx_st 0 (pc' := 33) (L' := [some (.ref 48), some (.int x), some (.int 0), some (.int 3)]) (st' := [.int 100]) (h' := kv_wd g w) rfl ?_
  refine kx_st 1 (pc' := 34) (L' := [some (.ref 48), some (.int x), some (.int 0), some (.int 3)]) (st' := [.int x, .int 100]) (h' := kv_wd g w) rfl ?_
  refine kx_bi (t := 41) rfl rfl (fun (h34 : ¬ 100 = x) => ?_) (fun (h34 : ¬ (¬ 100 = x)) => ?_)
  · refine kx_st 4 (pc' := 4) (L' := [some (.ref 48), some (.int x), some (.int 1), some (.int 3)]) (st' := [.int 3, .int 1]) (h' := kv_wd g w) rfl ?_
    refine kx_st 1 (pc' := 7) (L' := [some (.ref 48), some (.int x), some (.int 1), some (.int 3)]) (st' := []) (h' := kv_wd g w) rfl ?_
    refine kx_st 3 (pc' := 12) (L' := [some (.ref 48), some (.int x), some (.int 1), some (.int 3)]) (st' := [.int (g 48 4), .int 3]) (h' := kv_wd g w) rfl ?_
    rw [show g 48 4 = 1 from hu]
    refine kx_st 5 (pc' := 17) (L' := [some (.ref 48), some (.int x), some (.int 1), some (.int 4)]) (st' := [.int 4]) (h' := kv_wd g w) rfl ?_
    refine kx_st 1 (pc' := 20) (L' := [some (.ref 48), some (.int x), some (.int 1), some (.int 4)]) (st' := []) (h' := kv_wd g w) rfl ?_
    refine kx_st 2 (pc' := 24) (L' := [some (.ref 48), some (.int x), some (.int 1), some (.int 4)]) (st' := [.ref 1002, .int 4]) (h' := kv_wd g w) rfl ?_
    refine kx_aE (n := 6) rfl hE (by decide) ?_
    refine kx_st 1 (pc' := 28) (L' := [some (.ref 48), some (.int x), some (.int 1), some (.int 4)]) (st' := []) (h' := kv_wd g w) rfl ?_
    refine kx_st 2 (pc' := 32) (L' := [some (.ref 48), some (.int x), some (.int 1), some (.int 4)]) (st' := [.int 4, .ref 1002]) (h' := kv_wd g w) rfl ?_
    refine kx_cE (k := 4) (f := kv_NA) rfl hE (by decide) rfl (by decide) (by omega) ?_
    refine kx_st 0 (pc' := 33) (L' := [some (.ref 48), some (.int x), some (.int 1), some (.int 4)]) (st' := [.int 109]) (h' := kv_wd g w) rfl ?_
    refine kx_st 1 (pc' := 34) (L' := [some (.ref 48), some (.int x), some (.int 1), some (.int 4)]) (st' := [.int x, .int 109]) (h' := kv_wd g w) rfl ?_
    refine kx_bi (t := 41) rfl rfl (fun (h34_1 : ¬ 109 = x) => ?_) (fun (h34_1 : ¬ (¬ 109 = x)) => ?_)
    · refine kx_st 4 (pc' := 4) (L' := [some (.ref 48), some (.int x), some (.int 2), some (.int 4)]) (st' := [.int 3, .int 2]) (h' := kv_wd g w) rfl ?_
      refine kx_st 1 (pc' := 7) (L' := [some (.ref 48), some (.int x), some (.int 2), some (.int 4)]) (st' := []) (h' := kv_wd g w) rfl ?_
      refine kx_st 3 (pc' := 12) (L' := [some (.ref 48), some (.int x), some (.int 2), some (.int 4)]) (st' := [.int (g 48 4), .int 3]) (h' := kv_wd g w) rfl ?_
      rw [show g 48 4 = 1 from hu]
      refine kx_st 5 (pc' := 17) (L' := [some (.ref 48), some (.int x), some (.int 2), some (.int 5)]) (st' := [.int 5]) (h' := kv_wd g w) rfl ?_
      refine kx_st 1 (pc' := 20) (L' := [some (.ref 48), some (.int x), some (.int 2), some (.int 5)]) (st' := []) (h' := kv_wd g w) rfl ?_
      refine kx_st 2 (pc' := 24) (L' := [some (.ref 48), some (.int x), some (.int 2), some (.int 5)]) (st' := [.ref 1002, .int 5]) (h' := kv_wd g w) rfl ?_
      refine kx_aE (n := 6) rfl hE (by decide) ?_
      refine kx_st 1 (pc' := 28) (L' := [some (.ref 48), some (.int x), some (.int 2), some (.int 5)]) (st' := []) (h' := kv_wd g w) rfl ?_
      refine kx_st 2 (pc' := 32) (L' := [some (.ref 48), some (.int x), some (.int 2), some (.int 5)]) (st' := [.int 5, .ref 1002]) (h' := kv_wd g w) rfl ?_
      refine kx_cE (k := 5) (f := kv_NA) rfl hE (by decide) rfl (by decide) (by omega) ?_
      refine kx_st 0 (pc' := 33) (L' := [some (.ref 48), some (.int x), some (.int 2), some (.int 5)]) (st' := [.int 108]) (h' := kv_wd g w) rfl ?_
      refine kx_st 1 (pc' := 34) (L' := [some (.ref 48), some (.int x), some (.int 2), some (.int 5)]) (st' := [.int x, .int 108]) (h' := kv_wd g w) rfl ?_
      refine kx_bi (t := 41) rfl rfl (fun (h34_2 : ¬ 108 = x) => ?_) (fun (h34_2 : ¬ (¬ 108 = x)) => ?_)
      · refine kx_st 4 (pc' := 4) (L' := [some (.ref 48), some (.int x), some (.int 3), some (.int 5)]) (st' := [.int 3, .int 3]) (h' := kv_wd g w) rfl ?_
        refine kx_st 1 (pc' := 47) (L' := [some (.ref 48), some (.int x), some (.int 3), some (.int 5)]) (st' := []) (h' := kv_wd g w) rfl ?_
        refine kx_st 1 (pc' := 48) (L' := [some (.ref 48), some (.int x), some (.int 3), some (.int 5)]) (st' := [.int 0]) (h' := kv_wd g w) rfl ?_
        refine kx_ret (v := some (.int 0)) rfl ?_
        refine ⟨?_, rfl⟩
        have e : (0 : Int32) = if x = 100 then 1 else if x = 109 then 2 else if x = 108 then 3 else 0 := by grind
        exact congrArg (fun z => some (Value.int z)) e
      · refine kx_st 0 (pc' := 37) (L' := [some (.ref 48), some (.int x), some (.int 2), some (.int 5)]) (st' := []) (h' := kv_wd g w) rfl ?_
        refine kx_st 3 (pc' := 40) (L' := [some (.ref 48), some (.int x), some (.int 2), some (.int 5)]) (st' := [.int 3]) (h' := kv_wd g w) rfl ?_
        refine kx_ret (v := some (.int 3)) rfl ?_
        refine ⟨?_, rfl⟩
        have e : (3 : Int32) = if x = 100 then 1 else if x = 109 then 2 else if x = 108 then 3 else 0 := by grind
        exact congrArg (fun z => some (Value.int z)) e
    · refine kx_st 0 (pc' := 37) (L' := [some (.ref 48), some (.int x), some (.int 1), some (.int 4)]) (st' := []) (h' := kv_wd g w) rfl ?_
      refine kx_st 3 (pc' := 40) (L' := [some (.ref 48), some (.int x), some (.int 1), some (.int 4)]) (st' := [.int 2]) (h' := kv_wd g w) rfl ?_
      refine kx_ret (v := some (.int 2)) rfl ?_
      refine ⟨?_, rfl⟩
      have e : (2 : Int32) = if x = 100 then 1 else if x = 109 then 2 else if x = 108 then 3 else 0 := by grind
      exact congrArg (fun z => some (Value.int z)) e
  · refine kx_st 0 (pc' := 37) (L' := [some (.ref 48), some (.int x), some (.int 0), some (.int 3)]) (st' := []) (h' := kv_wd g w) rfl ?_
    refine kx_st 3 (pc' := 40) (L' := [some (.ref 48), some (.int x), some (.int 0), some (.int 3)]) (st' := [.int 1]) (h' := kv_wd g w) rfl ?_
    refine kx_ret (v := some (.int 1)) rfl ?_
    refine ⟨?_, rfl⟩
    have e : (1 : Int32) = if x = 100 then 1 else if x = 109 then 2 else if x = 108 then 3 else 0 := by grind
    exact congrArg (fun z => some (Value.int z)) e
set_option maxRecDepth 100000 in
theorem ev_named_0_118 {E : kv_V} {d : Nat} {g : kv_S} {w : kv_W} {tx : Nat → Int32} {n a op : Nat} {A B C : Int32} (hs : kx_RS tx n 0 g a op A B C) : kv_ev E (d + 2) 159 [.ref 65, .int 118] (kv_wd g w) (some (.int A)) (kv_wd (kv_up g 65 8 (g 65 8 + 1)) w) := by
  refine kx_ev (d := d + 1) (by decide) (Nat.le_of_ble_eq_true rfl) ?_
  refine kx_st 0 (pc' := 0) (L' := [some (.ref 65), some (.int 118), none, none, none]) (st' := []) (h' := kv_wd g w) rfl ?_
  refine kx_st 3 (pc' := 5) (L' := [some (.ref 65), some (.int 118), none, none, none]) (st' := [.int (g 65 7), .int 118]) (h' := kv_wd g w) rfl ?_
  rw [show g 65 7 = 0 from hs.1.1]
  refine kx_st 1 (pc' := 8) (L' := [some (.ref 65), some (.int 118), none, none, none]) (st' := [.int 118]) (h' := kv_wd g w) rfl ?_
  refine kx_st 2 (pc' := 15) (L' := [some (.ref 65), some (.int 118), none, none, none]) (st' := [.int 118, .int 118]) (h' := kv_wd g w) rfl ?_
  refine kx_st 1 (pc' := 18) (L' := [some (.ref 65), some (.int 118), none, none, none]) (st' := []) (h' := kv_wd g w) rfl ?_
  refine kx_st 6 (pc' := 29) (L' := [some (.ref 65), some (.int 118), some (.int 1), none, none]) (st' := [.int (g 65 7), .int 118]) (h' := kv_wd g w) rfl ?_
  rw [show g 65 7 = 0 from hs.1.1]
  refine kx_st 1 (pc' := 32) (L' := [some (.ref 65), some (.int 118), some (.int 1), none, none]) (st' := [.int 118]) (h' := kv_wd g w) rfl ?_
  refine kx_st 2 (pc' := 39) (L' := [some (.ref 65), some (.int 118), some (.int 1), none, none]) (st' := [.int 107, .int 118]) (h' := kv_wd g w) rfl ?_
  refine kx_st 1 (pc' := 46) (L' := [some (.ref 65), some (.int 118), some (.int 1), none, none]) (st' := []) (h' := kv_wd g w) rfl ?_
  refine kx_st 5 (pc' := 53) (L' := [some (.ref 65), some (.int 118), some (.int 1), some (.int 0), none]) (st' := [.int (g 65 7), .int 118]) (h' := kv_wd g w) rfl ?_
  rw [show g 65 7 = 0 from hs.1.1]
  refine kx_st 1 (pc' := 56) (L' := [some (.ref 65), some (.int 118), some (.int 1), some (.int 0), none]) (st' := [.int 118]) (h' := kv_wd g w) rfl ?_
  refine kx_st 2 (pc' := 63) (L' := [some (.ref 65), some (.int 118), some (.int 1), some (.int 0), none]) (st' := [.int 121, .int 118]) (h' := kv_wd g w) rfl ?_
  refine kx_st 1 (pc' := 70) (L' := [some (.ref 65), some (.int 118), some (.int 1), some (.int 0), none]) (st' := []) (h' := kv_wd g w) rfl ?_
  refine kx_st 3 (pc' := 74) (L' := [some (.ref 65), some (.int 118), some (.int 1), some (.int 0), some (.int 0)]) (st' := [.int 1]) (h' := kv_wd g w) rfl ?_
  refine kx_st 1 (pc' := 91) (L' := [some (.ref 65), some (.int 118), some (.int 1), some (.int 0), some (.int 0)]) (st' := []) (h' := kv_wd g w) rfl ?_
  refine kx_st 5 (pc' := 98) (L' := [some (.ref 65), some (.int 118), some (.int 1), some (.int 0), some (.int 0)]) (st' := [.int ((g 65 8) + 1), .ref 65]) (h' := kv_wd g w) rfl ?_
  refine kx_pf (i := 113) (k := 8) (x := ((g 65 8) + 1)) rfl rfl (by decide) rfl (Nat.le_of_ble_eq_true rfl) rfl rfl rfl ?_
  refine kx_st 1 (pc' := 102) (L' := [some (.ref 65), some (.int 118), some (.int 1), some (.int 0), some (.int 0)]) (st' := [.int 1]) (h' := kv_wd (kv_up g 65 8 ((g 65 8) + 1)) w) rfl ?_
  refine kx_st 1 (pc' := 105) (L' := [some (.ref 65), some (.int 118), some (.int 1), some (.int 0), some (.int 0)]) (st' := []) (h' := kv_wd (kv_up g 65 8 ((g 65 8) + 1)) w) rfl ?_
  refine kx_st 3 (pc' := 127) (L' := [some (.ref 65), some (.int 118), some (.int 1), some (.int 0), some (.int 0)]) (st' := [.int ((kv_up g 65 8 ((g 65 8) + 1)) 65 11)]) (h' := kv_wd (kv_up g 65 8 ((g 65 8) + 1)) w) rfl ?_
  refine kx_ret (v := some (.int ((kv_up g 65 8 ((g 65 8) + 1)) 65 11))) rfl ?_
  exact ⟨by rw [show (kv_up g 65 8 (g 65 8 + 1)) 65 11 = A from hs.2.1.1], rfl⟩
set_option maxRecDepth 100000 in
theorem ev_named_0_107 {E : kv_V} {d : Nat} {g : kv_S} {w : kv_W} {tx : Nat → Int32} {n a op : Nat} {A B C : Int32} (hs : kx_RS tx n 0 g a op A B C) : kv_ev E (d + 2) 159 [.ref 65, .int 107] (kv_wd g w) (some (.int B)) (kv_wd (kv_up g 65 8 (g 65 8 + 1)) w) := by
  refine kx_ev (d := d + 1) (by decide) (Nat.le_of_ble_eq_true rfl) ?_
  refine kx_st 0 (pc' := 0) (L' := [some (.ref 65), some (.int 107), none, none, none]) (st' := []) (h' := kv_wd g w) rfl ?_
  refine kx_st 3 (pc' := 5) (L' := [some (.ref 65), some (.int 107), none, none, none]) (st' := [.int (g 65 7), .int 107]) (h' := kv_wd g w) rfl ?_
  rw [show g 65 7 = 0 from hs.1.1]
  refine kx_st 1 (pc' := 8) (L' := [some (.ref 65), some (.int 107), none, none, none]) (st' := [.int 107]) (h' := kv_wd g w) rfl ?_
  refine kx_st 2 (pc' := 15) (L' := [some (.ref 65), some (.int 107), none, none, none]) (st' := [.int 118, .int 107]) (h' := kv_wd g w) rfl ?_
  refine kx_st 1 (pc' := 22) (L' := [some (.ref 65), some (.int 107), none, none, none]) (st' := []) (h' := kv_wd g w) rfl ?_
  refine kx_st 5 (pc' := 29) (L' := [some (.ref 65), some (.int 107), some (.int 0), none, none]) (st' := [.int (g 65 7), .int 107]) (h' := kv_wd g w) rfl ?_
  rw [show g 65 7 = 0 from hs.1.1]
  refine kx_st 1 (pc' := 32) (L' := [some (.ref 65), some (.int 107), some (.int 0), none, none]) (st' := [.int 107]) (h' := kv_wd g w) rfl ?_
  refine kx_st 2 (pc' := 39) (L' := [some (.ref 65), some (.int 107), some (.int 0), none, none]) (st' := [.int 107, .int 107]) (h' := kv_wd g w) rfl ?_
  refine kx_st 1 (pc' := 42) (L' := [some (.ref 65), some (.int 107), some (.int 0), none, none]) (st' := []) (h' := kv_wd g w) rfl ?_
  refine kx_st 6 (pc' := 53) (L' := [some (.ref 65), some (.int 107), some (.int 0), some (.int 1), none]) (st' := [.int (g 65 7), .int 107]) (h' := kv_wd g w) rfl ?_
  rw [show g 65 7 = 0 from hs.1.1]
  refine kx_st 1 (pc' := 56) (L' := [some (.ref 65), some (.int 107), some (.int 0), some (.int 1), none]) (st' := [.int 107]) (h' := kv_wd g w) rfl ?_
  refine kx_st 2 (pc' := 63) (L' := [some (.ref 65), some (.int 107), some (.int 0), some (.int 1), none]) (st' := [.int 121, .int 107]) (h' := kv_wd g w) rfl ?_
  refine kx_st 1 (pc' := 70) (L' := [some (.ref 65), some (.int 107), some (.int 0), some (.int 1), none]) (st' := []) (h' := kv_wd g w) rfl ?_
  refine kx_st 3 (pc' := 74) (L' := [some (.ref 65), some (.int 107), some (.int 0), some (.int 1), some (.int 0)]) (st' := [.int 0]) (h' := kv_wd g w) rfl ?_
  refine kx_st 1 (pc' := 77) (L' := [some (.ref 65), some (.int 107), some (.int 0), some (.int 1), some (.int 0)]) (st' := []) (h' := kv_wd g w) rfl ?_
  refine kx_st 1 (pc' := 78) (L' := [some (.ref 65), some (.int 107), some (.int 0), some (.int 1), some (.int 0)]) (st' := [.int 1]) (h' := kv_wd g w) rfl ?_
  refine kx_st 1 (pc' := 91) (L' := [some (.ref 65), some (.int 107), some (.int 0), some (.int 1), some (.int 0)]) (st' := []) (h' := kv_wd g w) rfl ?_
  refine kx_st 5 (pc' := 98) (L' := [some (.ref 65), some (.int 107), some (.int 0), some (.int 1), some (.int 0)]) (st' := [.int ((g 65 8) + 1), .ref 65]) (h' := kv_wd g w) rfl ?_
  refine kx_pf (i := 113) (k := 8) (x := ((g 65 8) + 1)) rfl rfl (by decide) rfl (Nat.le_of_ble_eq_true rfl) rfl rfl rfl ?_
  refine kx_st 1 (pc' := 102) (L' := [some (.ref 65), some (.int 107), some (.int 0), some (.int 1), some (.int 0)]) (st' := [.int 0]) (h' := kv_wd (kv_up g 65 8 ((g 65 8) + 1)) w) rfl ?_
  refine kx_st 1 (pc' := 112) (L' := [some (.ref 65), some (.int 107), some (.int 0), some (.int 1), some (.int 0)]) (st' := []) (h' := kv_wd (kv_up g 65 8 ((g 65 8) + 1)) w) rfl ?_
  refine kx_st 1 (pc' := 113) (L' := [some (.ref 65), some (.int 107), some (.int 0), some (.int 1), some (.int 0)]) (st' := [.int 1]) (h' := kv_wd (kv_up g 65 8 ((g 65 8) + 1)) w) rfl ?_
  refine kx_st 1 (pc' := 116) (L' := [some (.ref 65), some (.int 107), some (.int 0), some (.int 1), some (.int 0)]) (st' := []) (h' := kv_wd (kv_up g 65 8 ((g 65 8) + 1)) w) rfl ?_
  refine kx_st 3 (pc' := 127) (L' := [some (.ref 65), some (.int 107), some (.int 0), some (.int 1), some (.int 0)]) (st' := [.int ((kv_up g 65 8 ((g 65 8) + 1)) 65 12)]) (h' := kv_wd (kv_up g 65 8 ((g 65 8) + 1)) w) rfl ?_
  refine kx_ret (v := some (.int ((kv_up g 65 8 ((g 65 8) + 1)) 65 12))) rfl ?_
  exact ⟨by rw [show (kv_up g 65 8 (g 65 8 + 1)) 65 12 = B from hs.2.1.2.1], rfl⟩
set_option maxRecDepth 100000 in
theorem ev_named_0_121 {E : kv_V} {d : Nat} {g : kv_S} {w : kv_W} {tx : Nat → Int32} {n a op : Nat} {A B C : Int32} (hs : kx_RS tx n 0 g a op A B C) : kv_ev E (d + 2) 159 [.ref 65, .int 121] (kv_wd g w) (some (.int C)) (kv_wd (kv_up g 65 8 (g 65 8 + 1)) w) := by
  refine kx_ev (d := d + 1) (by decide) (Nat.le_of_ble_eq_true rfl) ?_
  refine kx_st 0 (pc' := 0) (L' := [some (.ref 65), some (.int 121), none, none, none]) (st' := []) (h' := kv_wd g w) rfl ?_
  refine kx_st 3 (pc' := 5) (L' := [some (.ref 65), some (.int 121), none, none, none]) (st' := [.int (g 65 7), .int 121]) (h' := kv_wd g w) rfl ?_
  rw [show g 65 7 = 0 from hs.1.1]
  refine kx_st 1 (pc' := 8) (L' := [some (.ref 65), some (.int 121), none, none, none]) (st' := [.int 121]) (h' := kv_wd g w) rfl ?_
  refine kx_st 2 (pc' := 15) (L' := [some (.ref 65), some (.int 121), none, none, none]) (st' := [.int 118, .int 121]) (h' := kv_wd g w) rfl ?_
  refine kx_st 1 (pc' := 22) (L' := [some (.ref 65), some (.int 121), none, none, none]) (st' := []) (h' := kv_wd g w) rfl ?_
  refine kx_st 5 (pc' := 29) (L' := [some (.ref 65), some (.int 121), some (.int 0), none, none]) (st' := [.int (g 65 7), .int 121]) (h' := kv_wd g w) rfl ?_
  rw [show g 65 7 = 0 from hs.1.1]
  refine kx_st 1 (pc' := 32) (L' := [some (.ref 65), some (.int 121), some (.int 0), none, none]) (st' := [.int 121]) (h' := kv_wd g w) rfl ?_
  refine kx_st 2 (pc' := 39) (L' := [some (.ref 65), some (.int 121), some (.int 0), none, none]) (st' := [.int 107, .int 121]) (h' := kv_wd g w) rfl ?_
  refine kx_st 1 (pc' := 46) (L' := [some (.ref 65), some (.int 121), some (.int 0), none, none]) (st' := []) (h' := kv_wd g w) rfl ?_
  refine kx_st 5 (pc' := 53) (L' := [some (.ref 65), some (.int 121), some (.int 0), some (.int 0), none]) (st' := [.int (g 65 7), .int 121]) (h' := kv_wd g w) rfl ?_
  rw [show g 65 7 = 0 from hs.1.1]
  refine kx_st 1 (pc' := 56) (L' := [some (.ref 65), some (.int 121), some (.int 0), some (.int 0), none]) (st' := [.int 121]) (h' := kv_wd g w) rfl ?_
  refine kx_st 2 (pc' := 63) (L' := [some (.ref 65), some (.int 121), some (.int 0), some (.int 0), none]) (st' := [.int 121, .int 121]) (h' := kv_wd g w) rfl ?_
  refine kx_st 1 (pc' := 66) (L' := [some (.ref 65), some (.int 121), some (.int 0), some (.int 0), none]) (st' := []) (h' := kv_wd g w) rfl ?_
  refine kx_st 4 (pc' := 74) (L' := [some (.ref 65), some (.int 121), some (.int 0), some (.int 0), some (.int 1)]) (st' := [.int 0]) (h' := kv_wd g w) rfl ?_
  refine kx_st 1 (pc' := 77) (L' := [some (.ref 65), some (.int 121), some (.int 0), some (.int 0), some (.int 1)]) (st' := []) (h' := kv_wd g w) rfl ?_
  refine kx_st 1 (pc' := 78) (L' := [some (.ref 65), some (.int 121), some (.int 0), some (.int 0), some (.int 1)]) (st' := [.int 0]) (h' := kv_wd g w) rfl ?_
  refine kx_st 1 (pc' := 81) (L' := [some (.ref 65), some (.int 121), some (.int 0), some (.int 0), some (.int 1)]) (st' := []) (h' := kv_wd g w) rfl ?_
  refine kx_st 1 (pc' := 83) (L' := [some (.ref 65), some (.int 121), some (.int 0), some (.int 0), some (.int 1)]) (st' := [.int 1]) (h' := kv_wd g w) rfl ?_
  refine kx_st 1 (pc' := 91) (L' := [some (.ref 65), some (.int 121), some (.int 0), some (.int 0), some (.int 1)]) (st' := []) (h' := kv_wd g w) rfl ?_
  refine kx_st 5 (pc' := 98) (L' := [some (.ref 65), some (.int 121), some (.int 0), some (.int 0), some (.int 1)]) (st' := [.int ((g 65 8) + 1), .ref 65]) (h' := kv_wd g w) rfl ?_
  refine kx_pf (i := 113) (k := 8) (x := ((g 65 8) + 1)) rfl rfl (by decide) rfl (Nat.le_of_ble_eq_true rfl) rfl rfl rfl ?_
  refine kx_st 1 (pc' := 102) (L' := [some (.ref 65), some (.int 121), some (.int 0), some (.int 0), some (.int 1)]) (st' := [.int 0]) (h' := kv_wd (kv_up g 65 8 ((g 65 8) + 1)) w) rfl ?_
  refine kx_st 1 (pc' := 112) (L' := [some (.ref 65), some (.int 121), some (.int 0), some (.int 0), some (.int 1)]) (st' := []) (h' := kv_wd (kv_up g 65 8 ((g 65 8) + 1)) w) rfl ?_
  refine kx_st 1 (pc' := 113) (L' := [some (.ref 65), some (.int 121), some (.int 0), some (.int 0), some (.int 1)]) (st' := [.int 0]) (h' := kv_wd (kv_up g 65 8 ((g 65 8) + 1)) w) rfl ?_
  refine kx_st 1 (pc' := 123) (L' := [some (.ref 65), some (.int 121), some (.int 0), some (.int 0), some (.int 1)]) (st' := []) (h' := kv_wd (kv_up g 65 8 ((g 65 8) + 1)) w) rfl ?_
  refine kx_st 2 (pc' := 127) (L' := [some (.ref 65), some (.int 121), some (.int 0), some (.int 0), some (.int 1)]) (st' := [.int ((kv_up g 65 8 ((g 65 8) + 1)) 65 13)]) (h' := kv_wd (kv_up g 65 8 ((g 65 8) + 1)) w) rfl ?_
  refine kx_ret (v := some (.int ((kv_up g 65 8 ((g 65 8) + 1)) 65 13))) rfl ?_
  exact ⟨by rw [show (kv_up g 65 8 (g 65 8 + 1)) 65 13 = C from hs.2.1.2.2], rfl⟩
set_option maxRecDepth 100000 in
theorem ev_named_0_n {E : kv_V} {d : Nat} {g : kv_S} {w : kv_W} {tx : Nat → Int32} {n a op : Nat} {A B C : Int32} (hs : kx_RS tx n 0 g a op A B C) (x : Int32) (hx : ¬ x = 118 ∧ ¬ x = 107 ∧ ¬ x = 121) : kv_ev E (d + 2) 159 [.ref 65, .int x] (kv_wd g w) (some (.int 0)) (kv_wd (kv_up g 65 14 0) w) := by
  refine kx_ev (d := d + 1) (by decide) (Nat.le_of_ble_eq_true rfl) ?_
  refine kx_st 0 (pc' := 0) (L' := [some (.ref 65), some (.int x), none, none, none]) (st' := []) (h' := kv_wd g w) rfl ?_
  refine kx_st 3 (pc' := 5) (L' := [some (.ref 65), some (.int x), none, none, none]) (st' := [.int (g 65 7), .int x]) (h' := kv_wd g w) rfl ?_
  rw [show g 65 7 = 0 from hs.1.1]
  refine kx_st 1 (pc' := 8) (L' := [some (.ref 65), some (.int x), none, none, none]) (st' := [.int x]) (h' := kv_wd g w) rfl ?_
  refine kx_st 2 (pc' := 15) (L' := [some (.ref 65), some (.int x), none, none, none]) (st' := [.int 118, .int x]) (h' := kv_wd g w) rfl ?_
  refine kx_bi (t := 22) rfl rfl (fun (h15 : ¬ x = 118) => ?_) (fun (h15 : ¬ (¬ x = 118)) => ?_)
  · refine kx_st 5 (pc' := 29) (L' := [some (.ref 65), some (.int x), some (.int 0), none, none]) (st' := [.int (g 65 7), .int x]) (h' := kv_wd g w) rfl ?_
    rw [show g 65 7 = 0 from hs.1.1]
    refine kx_st 1 (pc' := 32) (L' := [some (.ref 65), some (.int x), some (.int 0), none, none]) (st' := [.int x]) (h' := kv_wd g w) rfl ?_
    refine kx_st 2 (pc' := 39) (L' := [some (.ref 65), some (.int x), some (.int 0), none, none]) (st' := [.int 107, .int x]) (h' := kv_wd g w) rfl ?_
    refine kx_bi (t := 46) rfl rfl (fun (h39 : ¬ x = 107) => ?_) (fun (h39 : ¬ (¬ x = 107)) => ?_)
    · refine kx_st 5 (pc' := 53) (L' := [some (.ref 65), some (.int x), some (.int 0), some (.int 0), none]) (st' := [.int (g 65 7), .int x]) (h' := kv_wd g w) rfl ?_
      rw [show g 65 7 = 0 from hs.1.1]
      refine kx_st 1 (pc' := 56) (L' := [some (.ref 65), some (.int x), some (.int 0), some (.int 0), none]) (st' := [.int x]) (h' := kv_wd g w) rfl ?_
      refine kx_st 2 (pc' := 63) (L' := [some (.ref 65), some (.int x), some (.int 0), some (.int 0), none]) (st' := [.int 121, .int x]) (h' := kv_wd g w) rfl ?_
      refine kx_bi (t := 70) rfl rfl (fun (h63 : ¬ x = 121) => ?_) (fun (h63 : ¬ (¬ x = 121)) => ?_)
      · refine kx_st 3 (pc' := 74) (L' := [some (.ref 65), some (.int x), some (.int 0), some (.int 0), some (.int 0)]) (st' := [.int 0]) (h' := kv_wd g w) rfl ?_
        refine kx_st 1 (pc' := 77) (L' := [some (.ref 65), some (.int x), some (.int 0), some (.int 0), some (.int 0)]) (st' := []) (h' := kv_wd g w) rfl ?_
        refine kx_st 1 (pc' := 78) (L' := [some (.ref 65), some (.int x), some (.int 0), some (.int 0), some (.int 0)]) (st' := [.int 0]) (h' := kv_wd g w) rfl ?_
        refine kx_st 1 (pc' := 81) (L' := [some (.ref 65), some (.int x), some (.int 0), some (.int 0), some (.int 0)]) (st' := []) (h' := kv_wd g w) rfl ?_
        refine kx_st 1 (pc' := 83) (L' := [some (.ref 65), some (.int x), some (.int 0), some (.int 0), some (.int 0)]) (st' := [.int 0]) (h' := kv_wd g w) rfl ?_
        refine kx_st 1 (pc' := 86) (L' := [some (.ref 65), some (.int x), some (.int 0), some (.int 0), some (.int 0)]) (st' := []) (h' := kv_wd g w) rfl ?_
        refine kx_st 1 (pc' := 87) (L' := [some (.ref 65), some (.int x), some (.int 0), some (.int 0), some (.int 0)]) (st' := [.ref 65]) (h' := kv_wd g w) rfl ?_
        refine kx_call (z := 157) (as := [.ref 65]) (rest := []) (v := some (.int 0)) (h1 := kv_wd (kv_up g 65 14 0) w) rfl (ev_fails (d := d)) ?_
        refine kx_st 0 (pc' := 90) (L' := [some (.ref 65), some (.int x), some (.int 0), some (.int 0), some (.int 0)]) (st' := [.int 0]) (h' := kv_wd (kv_up g 65 14 0) w) rfl ?_
        refine kx_ret (v := some (.int 0)) rfl ?_
        exact ⟨rfl, rfl⟩
      · exact absurd (Classical.not_not.mp h63) hx.2.2
    · exact absurd (Classical.not_not.mp h39) hx.2.1
  · exact absurd (Classical.not_not.mp h15) hx.1
set_option maxRecDepth 100000 in
theorem ev_named_1_100 {E : kv_V} {d : Nat} {g : kv_S} {w : kv_W} {tx : Nat → Int32} {n a op : Nat} {A B C : Int32} (hs : kx_RS tx n 1 g a op A B C) : kv_ev E (d + 2) 159 [.ref 65, .int 100] (kv_wd g w) (some (.int A)) (kv_wd (kv_up g 65 8 (g 65 8 + 1)) w) := by
  refine kx_ev (d := d + 1) (by decide) (Nat.le_of_ble_eq_true rfl) ?_
  refine kx_st 0 (pc' := 0) (L' := [some (.ref 65), some (.int 100), none, none, none]) (st' := []) (h' := kv_wd g w) rfl ?_
  refine kx_st 3 (pc' := 5) (L' := [some (.ref 65), some (.int 100), none, none, none]) (st' := [.int (g 65 7), .int 100]) (h' := kv_wd g w) rfl ?_
  rw [show g 65 7 = 1 from hs.1.1]
  refine kx_st 1 (pc' := 13) (L' := [some (.ref 65), some (.int 100), none, none, none]) (st' := [.int 100]) (h' := kv_wd g w) rfl ?_
  refine kx_st 1 (pc' := 15) (L' := [some (.ref 65), some (.int 100), none, none, none]) (st' := [.int 100, .int 100]) (h' := kv_wd g w) rfl ?_
  refine kx_st 1 (pc' := 18) (L' := [some (.ref 65), some (.int 100), none, none, none]) (st' := []) (h' := kv_wd g w) rfl ?_
  refine kx_st 6 (pc' := 29) (L' := [some (.ref 65), some (.int 100), some (.int 1), none, none]) (st' := [.int (g 65 7), .int 100]) (h' := kv_wd g w) rfl ?_
  rw [show g 65 7 = 1 from hs.1.1]
  refine kx_st 1 (pc' := 37) (L' := [some (.ref 65), some (.int 100), some (.int 1), none, none]) (st' := [.int 100]) (h' := kv_wd g w) rfl ?_
  refine kx_st 1 (pc' := 39) (L' := [some (.ref 65), some (.int 100), some (.int 1), none, none]) (st' := [.int 109, .int 100]) (h' := kv_wd g w) rfl ?_
  refine kx_st 1 (pc' := 46) (L' := [some (.ref 65), some (.int 100), some (.int 1), none, none]) (st' := []) (h' := kv_wd g w) rfl ?_
  refine kx_st 5 (pc' := 53) (L' := [some (.ref 65), some (.int 100), some (.int 1), some (.int 0), none]) (st' := [.int (g 65 7), .int 100]) (h' := kv_wd g w) rfl ?_
  rw [show g 65 7 = 1 from hs.1.1]
  refine kx_st 1 (pc' := 61) (L' := [some (.ref 65), some (.int 100), some (.int 1), some (.int 0), none]) (st' := [.int 100]) (h' := kv_wd g w) rfl ?_
  refine kx_st 1 (pc' := 63) (L' := [some (.ref 65), some (.int 100), some (.int 1), some (.int 0), none]) (st' := [.int 108, .int 100]) (h' := kv_wd g w) rfl ?_
  refine kx_st 1 (pc' := 70) (L' := [some (.ref 65), some (.int 100), some (.int 1), some (.int 0), none]) (st' := []) (h' := kv_wd g w) rfl ?_
  refine kx_st 3 (pc' := 74) (L' := [some (.ref 65), some (.int 100), some (.int 1), some (.int 0), some (.int 0)]) (st' := [.int 1]) (h' := kv_wd g w) rfl ?_
  refine kx_st 1 (pc' := 91) (L' := [some (.ref 65), some (.int 100), some (.int 1), some (.int 0), some (.int 0)]) (st' := []) (h' := kv_wd g w) rfl ?_
  refine kx_st 5 (pc' := 98) (L' := [some (.ref 65), some (.int 100), some (.int 1), some (.int 0), some (.int 0)]) (st' := [.int ((g 65 8) + 1), .ref 65]) (h' := kv_wd g w) rfl ?_
  refine kx_pf (i := 113) (k := 8) (x := ((g 65 8) + 1)) rfl rfl (by decide) rfl (Nat.le_of_ble_eq_true rfl) rfl rfl rfl ?_
  refine kx_st 1 (pc' := 102) (L' := [some (.ref 65), some (.int 100), some (.int 1), some (.int 0), some (.int 0)]) (st' := [.int 1]) (h' := kv_wd (kv_up g 65 8 ((g 65 8) + 1)) w) rfl ?_
  refine kx_st 1 (pc' := 105) (L' := [some (.ref 65), some (.int 100), some (.int 1), some (.int 0), some (.int 0)]) (st' := []) (h' := kv_wd (kv_up g 65 8 ((g 65 8) + 1)) w) rfl ?_
  refine kx_st 3 (pc' := 127) (L' := [some (.ref 65), some (.int 100), some (.int 1), some (.int 0), some (.int 0)]) (st' := [.int ((kv_up g 65 8 ((g 65 8) + 1)) 65 11)]) (h' := kv_wd (kv_up g 65 8 ((g 65 8) + 1)) w) rfl ?_
  refine kx_ret (v := some (.int ((kv_up g 65 8 ((g 65 8) + 1)) 65 11))) rfl ?_
  exact ⟨by rw [show (kv_up g 65 8 (g 65 8 + 1)) 65 11 = A from hs.2.1.1], rfl⟩
set_option maxRecDepth 100000 in
theorem ev_named_1_109 {E : kv_V} {d : Nat} {g : kv_S} {w : kv_W} {tx : Nat → Int32} {n a op : Nat} {A B C : Int32} (hs : kx_RS tx n 1 g a op A B C) : kv_ev E (d + 2) 159 [.ref 65, .int 109] (kv_wd g w) (some (.int B)) (kv_wd (kv_up g 65 8 (g 65 8 + 1)) w) := by
  refine kx_ev (d := d + 1) (by decide) (Nat.le_of_ble_eq_true rfl) ?_
  refine kx_st 0 (pc' := 0) (L' := [some (.ref 65), some (.int 109), none, none, none]) (st' := []) (h' := kv_wd g w) rfl ?_
  refine kx_st 3 (pc' := 5) (L' := [some (.ref 65), some (.int 109), none, none, none]) (st' := [.int (g 65 7), .int 109]) (h' := kv_wd g w) rfl ?_
  rw [show g 65 7 = 1 from hs.1.1]
  refine kx_st 1 (pc' := 13) (L' := [some (.ref 65), some (.int 109), none, none, none]) (st' := [.int 109]) (h' := kv_wd g w) rfl ?_
  refine kx_st 1 (pc' := 15) (L' := [some (.ref 65), some (.int 109), none, none, none]) (st' := [.int 100, .int 109]) (h' := kv_wd g w) rfl ?_
  refine kx_st 1 (pc' := 22) (L' := [some (.ref 65), some (.int 109), none, none, none]) (st' := []) (h' := kv_wd g w) rfl ?_
  refine kx_st 5 (pc' := 29) (L' := [some (.ref 65), some (.int 109), some (.int 0), none, none]) (st' := [.int (g 65 7), .int 109]) (h' := kv_wd g w) rfl ?_
  rw [show g 65 7 = 1 from hs.1.1]
  refine kx_st 1 (pc' := 37) (L' := [some (.ref 65), some (.int 109), some (.int 0), none, none]) (st' := [.int 109]) (h' := kv_wd g w) rfl ?_
  refine kx_st 1 (pc' := 39) (L' := [some (.ref 65), some (.int 109), some (.int 0), none, none]) (st' := [.int 109, .int 109]) (h' := kv_wd g w) rfl ?_
  refine kx_st 1 (pc' := 42) (L' := [some (.ref 65), some (.int 109), some (.int 0), none, none]) (st' := []) (h' := kv_wd g w) rfl ?_
  refine kx_st 6 (pc' := 53) (L' := [some (.ref 65), some (.int 109), some (.int 0), some (.int 1), none]) (st' := [.int (g 65 7), .int 109]) (h' := kv_wd g w) rfl ?_
  rw [show g 65 7 = 1 from hs.1.1]
  refine kx_st 1 (pc' := 61) (L' := [some (.ref 65), some (.int 109), some (.int 0), some (.int 1), none]) (st' := [.int 109]) (h' := kv_wd g w) rfl ?_
  refine kx_st 1 (pc' := 63) (L' := [some (.ref 65), some (.int 109), some (.int 0), some (.int 1), none]) (st' := [.int 108, .int 109]) (h' := kv_wd g w) rfl ?_
  refine kx_st 1 (pc' := 70) (L' := [some (.ref 65), some (.int 109), some (.int 0), some (.int 1), none]) (st' := []) (h' := kv_wd g w) rfl ?_
  refine kx_st 3 (pc' := 74) (L' := [some (.ref 65), some (.int 109), some (.int 0), some (.int 1), some (.int 0)]) (st' := [.int 0]) (h' := kv_wd g w) rfl ?_
  refine kx_st 1 (pc' := 77) (L' := [some (.ref 65), some (.int 109), some (.int 0), some (.int 1), some (.int 0)]) (st' := []) (h' := kv_wd g w) rfl ?_
  refine kx_st 1 (pc' := 78) (L' := [some (.ref 65), some (.int 109), some (.int 0), some (.int 1), some (.int 0)]) (st' := [.int 1]) (h' := kv_wd g w) rfl ?_
  refine kx_st 1 (pc' := 91) (L' := [some (.ref 65), some (.int 109), some (.int 0), some (.int 1), some (.int 0)]) (st' := []) (h' := kv_wd g w) rfl ?_
  refine kx_st 5 (pc' := 98) (L' := [some (.ref 65), some (.int 109), some (.int 0), some (.int 1), some (.int 0)]) (st' := [.int ((g 65 8) + 1), .ref 65]) (h' := kv_wd g w) rfl ?_
  refine kx_pf (i := 113) (k := 8) (x := ((g 65 8) + 1)) rfl rfl (by decide) rfl (Nat.le_of_ble_eq_true rfl) rfl rfl rfl ?_
  refine kx_st 1 (pc' := 102) (L' := [some (.ref 65), some (.int 109), some (.int 0), some (.int 1), some (.int 0)]) (st' := [.int 0]) (h' := kv_wd (kv_up g 65 8 ((g 65 8) + 1)) w) rfl ?_
  refine kx_st 1 (pc' := 112) (L' := [some (.ref 65), some (.int 109), some (.int 0), some (.int 1), some (.int 0)]) (st' := []) (h' := kv_wd (kv_up g 65 8 ((g 65 8) + 1)) w) rfl ?_
  refine kx_st 1 (pc' := 113) (L' := [some (.ref 65), some (.int 109), some (.int 0), some (.int 1), some (.int 0)]) (st' := [.int 1]) (h' := kv_wd (kv_up g 65 8 ((g 65 8) + 1)) w) rfl ?_
  refine kx_st 1 (pc' := 116) (L' := [some (.ref 65), some (.int 109), some (.int 0), some (.int 1), some (.int 0)]) (st' := []) (h' := kv_wd (kv_up g 65 8 ((g 65 8) + 1)) w) rfl ?_
  refine kx_st 3 (pc' := 127) (L' := [some (.ref 65), some (.int 109), some (.int 0), some (.int 1), some (.int 0)]) (st' := [.int ((kv_up g 65 8 ((g 65 8) + 1)) 65 12)]) (h' := kv_wd (kv_up g 65 8 ((g 65 8) + 1)) w) rfl ?_
  refine kx_ret (v := some (.int ((kv_up g 65 8 ((g 65 8) + 1)) 65 12))) rfl ?_
  exact ⟨by rw [show (kv_up g 65 8 (g 65 8 + 1)) 65 12 = B from hs.2.1.2.1], rfl⟩
set_option maxRecDepth 100000 in
theorem ev_named_1_108 {E : kv_V} {d : Nat} {g : kv_S} {w : kv_W} {tx : Nat → Int32} {n a op : Nat} {A B C : Int32} (hs : kx_RS tx n 1 g a op A B C) : kv_ev E (d + 2) 159 [.ref 65, .int 108] (kv_wd g w) (some (.int C)) (kv_wd (kv_up g 65 8 (g 65 8 + 1)) w) := by
  refine kx_ev (d := d + 1) (by decide) (Nat.le_of_ble_eq_true rfl) ?_
  refine kx_st 0 (pc' := 0) (L' := [some (.ref 65), some (.int 108), none, none, none]) (st' := []) (h' := kv_wd g w) rfl ?_
  refine kx_st 3 (pc' := 5) (L' := [some (.ref 65), some (.int 108), none, none, none]) (st' := [.int (g 65 7), .int 108]) (h' := kv_wd g w) rfl ?_
  rw [show g 65 7 = 1 from hs.1.1]
  refine kx_st 1 (pc' := 13) (L' := [some (.ref 65), some (.int 108), none, none, none]) (st' := [.int 108]) (h' := kv_wd g w) rfl ?_
  refine kx_st 1 (pc' := 15) (L' := [some (.ref 65), some (.int 108), none, none, none]) (st' := [.int 100, .int 108]) (h' := kv_wd g w) rfl ?_
  refine kx_st 1 (pc' := 22) (L' := [some (.ref 65), some (.int 108), none, none, none]) (st' := []) (h' := kv_wd g w) rfl ?_
  refine kx_st 5 (pc' := 29) (L' := [some (.ref 65), some (.int 108), some (.int 0), none, none]) (st' := [.int (g 65 7), .int 108]) (h' := kv_wd g w) rfl ?_
  rw [show g 65 7 = 1 from hs.1.1]
  refine kx_st 1 (pc' := 37) (L' := [some (.ref 65), some (.int 108), some (.int 0), none, none]) (st' := [.int 108]) (h' := kv_wd g w) rfl ?_
  refine kx_st 1 (pc' := 39) (L' := [some (.ref 65), some (.int 108), some (.int 0), none, none]) (st' := [.int 109, .int 108]) (h' := kv_wd g w) rfl ?_
  refine kx_st 1 (pc' := 46) (L' := [some (.ref 65), some (.int 108), some (.int 0), none, none]) (st' := []) (h' := kv_wd g w) rfl ?_
  refine kx_st 5 (pc' := 53) (L' := [some (.ref 65), some (.int 108), some (.int 0), some (.int 0), none]) (st' := [.int (g 65 7), .int 108]) (h' := kv_wd g w) rfl ?_
  rw [show g 65 7 = 1 from hs.1.1]
  refine kx_st 1 (pc' := 61) (L' := [some (.ref 65), some (.int 108), some (.int 0), some (.int 0), none]) (st' := [.int 108]) (h' := kv_wd g w) rfl ?_
  refine kx_st 1 (pc' := 63) (L' := [some (.ref 65), some (.int 108), some (.int 0), some (.int 0), none]) (st' := [.int 108, .int 108]) (h' := kv_wd g w) rfl ?_
  refine kx_st 1 (pc' := 66) (L' := [some (.ref 65), some (.int 108), some (.int 0), some (.int 0), none]) (st' := []) (h' := kv_wd g w) rfl ?_
  refine kx_st 4 (pc' := 74) (L' := [some (.ref 65), some (.int 108), some (.int 0), some (.int 0), some (.int 1)]) (st' := [.int 0]) (h' := kv_wd g w) rfl ?_
  refine kx_st 1 (pc' := 77) (L' := [some (.ref 65), some (.int 108), some (.int 0), some (.int 0), some (.int 1)]) (st' := []) (h' := kv_wd g w) rfl ?_
  refine kx_st 1 (pc' := 78) (L' := [some (.ref 65), some (.int 108), some (.int 0), some (.int 0), some (.int 1)]) (st' := [.int 0]) (h' := kv_wd g w) rfl ?_
  refine kx_st 1 (pc' := 81) (L' := [some (.ref 65), some (.int 108), some (.int 0), some (.int 0), some (.int 1)]) (st' := []) (h' := kv_wd g w) rfl ?_
  refine kx_st 1 (pc' := 83) (L' := [some (.ref 65), some (.int 108), some (.int 0), some (.int 0), some (.int 1)]) (st' := [.int 1]) (h' := kv_wd g w) rfl ?_
  refine kx_st 1 (pc' := 91) (L' := [some (.ref 65), some (.int 108), some (.int 0), some (.int 0), some (.int 1)]) (st' := []) (h' := kv_wd g w) rfl ?_
  refine kx_st 5 (pc' := 98) (L' := [some (.ref 65), some (.int 108), some (.int 0), some (.int 0), some (.int 1)]) (st' := [.int ((g 65 8) + 1), .ref 65]) (h' := kv_wd g w) rfl ?_
  refine kx_pf (i := 113) (k := 8) (x := ((g 65 8) + 1)) rfl rfl (by decide) rfl (Nat.le_of_ble_eq_true rfl) rfl rfl rfl ?_
  refine kx_st 1 (pc' := 102) (L' := [some (.ref 65), some (.int 108), some (.int 0), some (.int 0), some (.int 1)]) (st' := [.int 0]) (h' := kv_wd (kv_up g 65 8 ((g 65 8) + 1)) w) rfl ?_
  refine kx_st 1 (pc' := 112) (L' := [some (.ref 65), some (.int 108), some (.int 0), some (.int 0), some (.int 1)]) (st' := []) (h' := kv_wd (kv_up g 65 8 ((g 65 8) + 1)) w) rfl ?_
  refine kx_st 1 (pc' := 113) (L' := [some (.ref 65), some (.int 108), some (.int 0), some (.int 0), some (.int 1)]) (st' := [.int 0]) (h' := kv_wd (kv_up g 65 8 ((g 65 8) + 1)) w) rfl ?_
  refine kx_st 1 (pc' := 123) (L' := [some (.ref 65), some (.int 108), some (.int 0), some (.int 0), some (.int 1)]) (st' := []) (h' := kv_wd (kv_up g 65 8 ((g 65 8) + 1)) w) rfl ?_
  refine kx_st 2 (pc' := 127) (L' := [some (.ref 65), some (.int 108), some (.int 0), some (.int 0), some (.int 1)]) (st' := [.int ((kv_up g 65 8 ((g 65 8) + 1)) 65 13)]) (h' := kv_wd (kv_up g 65 8 ((g 65 8) + 1)) w) rfl ?_
  refine kx_ret (v := some (.int ((kv_up g 65 8 ((g 65 8) + 1)) 65 13))) rfl ?_
  exact ⟨by rw [show (kv_up g 65 8 (g 65 8 + 1)) 65 13 = C from hs.2.1.2.2], rfl⟩
set_option maxRecDepth 100000 in
theorem ev_named_1_n {E : kv_V} {d : Nat} {g : kv_S} {w : kv_W} {tx : Nat → Int32} {n a op : Nat} {A B C : Int32} (hs : kx_RS tx n 1 g a op A B C) (x : Int32) (hx : ¬ x = 100 ∧ ¬ x = 109 ∧ ¬ x = 108) : kv_ev E (d + 2) 159 [.ref 65, .int x] (kv_wd g w) (some (.int 0)) (kv_wd (kv_up g 65 14 0) w) := by
  refine kx_ev (d := d + 1) (by decide) (Nat.le_of_ble_eq_true rfl) ?_
  refine kx_st 0 (pc' := 0) (L' := [some (.ref 65), some (.int x), none, none, none]) (st' := []) (h' := kv_wd g w) rfl ?_
  refine kx_st 3 (pc' := 5) (L' := [some (.ref 65), some (.int x), none, none, none]) (st' := [.int (g 65 7), .int x]) (h' := kv_wd g w) rfl ?_
  rw [show g 65 7 = 1 from hs.1.1]
  refine kx_st 1 (pc' := 13) (L' := [some (.ref 65), some (.int x), none, none, none]) (st' := [.int x]) (h' := kv_wd g w) rfl ?_
  refine kx_st 1 (pc' := 15) (L' := [some (.ref 65), some (.int x), none, none, none]) (st' := [.int 100, .int x]) (h' := kv_wd g w) rfl ?_
  refine kx_bi (t := 22) rfl rfl (fun (h15 : ¬ x = 100) => ?_) (fun (h15 : ¬ (¬ x = 100)) => ?_)
  · refine kx_st 5 (pc' := 29) (L' := [some (.ref 65), some (.int x), some (.int 0), none, none]) (st' := [.int (g 65 7), .int x]) (h' := kv_wd g w) rfl ?_
    rw [show g 65 7 = 1 from hs.1.1]
    refine kx_st 1 (pc' := 37) (L' := [some (.ref 65), some (.int x), some (.int 0), none, none]) (st' := [.int x]) (h' := kv_wd g w) rfl ?_
    refine kx_st 1 (pc' := 39) (L' := [some (.ref 65), some (.int x), some (.int 0), none, none]) (st' := [.int 109, .int x]) (h' := kv_wd g w) rfl ?_
    refine kx_bi (t := 46) rfl rfl (fun (h39 : ¬ x = 109) => ?_) (fun (h39 : ¬ (¬ x = 109)) => ?_)
    · refine kx_st 5 (pc' := 53) (L' := [some (.ref 65), some (.int x), some (.int 0), some (.int 0), none]) (st' := [.int (g 65 7), .int x]) (h' := kv_wd g w) rfl ?_
      rw [show g 65 7 = 1 from hs.1.1]
      refine kx_st 1 (pc' := 61) (L' := [some (.ref 65), some (.int x), some (.int 0), some (.int 0), none]) (st' := [.int x]) (h' := kv_wd g w) rfl ?_
      refine kx_st 1 (pc' := 63) (L' := [some (.ref 65), some (.int x), some (.int 0), some (.int 0), none]) (st' := [.int 108, .int x]) (h' := kv_wd g w) rfl ?_
      refine kx_bi (t := 70) rfl rfl (fun (h63 : ¬ x = 108) => ?_) (fun (h63 : ¬ (¬ x = 108)) => ?_)
      · refine kx_st 3 (pc' := 74) (L' := [some (.ref 65), some (.int x), some (.int 0), some (.int 0), some (.int 0)]) (st' := [.int 0]) (h' := kv_wd g w) rfl ?_
        refine kx_st 1 (pc' := 77) (L' := [some (.ref 65), some (.int x), some (.int 0), some (.int 0), some (.int 0)]) (st' := []) (h' := kv_wd g w) rfl ?_
        refine kx_st 1 (pc' := 78) (L' := [some (.ref 65), some (.int x), some (.int 0), some (.int 0), some (.int 0)]) (st' := [.int 0]) (h' := kv_wd g w) rfl ?_
        refine kx_st 1 (pc' := 81) (L' := [some (.ref 65), some (.int x), some (.int 0), some (.int 0), some (.int 0)]) (st' := []) (h' := kv_wd g w) rfl ?_
        refine kx_st 1 (pc' := 83) (L' := [some (.ref 65), some (.int x), some (.int 0), some (.int 0), some (.int 0)]) (st' := [.int 0]) (h' := kv_wd g w) rfl ?_
        refine kx_st 1 (pc' := 86) (L' := [some (.ref 65), some (.int x), some (.int 0), some (.int 0), some (.int 0)]) (st' := []) (h' := kv_wd g w) rfl ?_
        refine kx_st 1 (pc' := 87) (L' := [some (.ref 65), some (.int x), some (.int 0), some (.int 0), some (.int 0)]) (st' := [.ref 65]) (h' := kv_wd g w) rfl ?_
        refine kx_call (z := 157) (as := [.ref 65]) (rest := []) (v := some (.int 0)) (h1 := kv_wd (kv_up g 65 14 0) w) rfl (ev_fails (d := d)) ?_
        refine kx_st 0 (pc' := 90) (L' := [some (.ref 65), some (.int x), some (.int 0), some (.int 0), some (.int 0)]) (st' := [.int 0]) (h' := kv_wd (kv_up g 65 14 0) w) rfl ?_
        refine kx_ret (v := some (.int 0)) rfl ?_
        exact ⟨rfl, rfl⟩
      · exact absurd (Classical.not_not.mp h63) hx.2.2
    · exact absurd (Classical.not_not.mp h39) hx.2.1
  · exact absurd (Classical.not_not.mp h15) hx.1
