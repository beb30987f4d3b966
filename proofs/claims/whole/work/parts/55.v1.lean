/-! PAIR: voice -/
def kx_nx (g : kv_S) (c : Nat) : List Int32 → kv_S
  | [] => g
  | b :: l => kx_nx (kv_up (kv_up g 54 c b) 53 1 (nI (c + 1))) (c + 1) l
def kx_mx (g : kv_S) (c : Nat) : List Int32 → kv_S
  | [] => g
  | b :: l => kx_mx (kv_up (kv_up g 75 c b) 65 20 (nI (c + 1))) (c + 1) l
theorem kx_nx_f : ∀ (l : List Int32) (g : kv_S) (c : Nat), g 53 1 = nI c → (kx_nx g c l) 53 1 = nI (c + l.length) ∧ (∀ k, k ≠ 1 → (kx_nx g c l) 53 k = g 53 k) ∧ (∀ j, (kx_nx g c l) 54 j = if c ≤ j ∧ j < c + l.length then l.getD (j - c) 0 else g 54 j) ∧ ∀ b, b ≠ 53 → b ≠ 54 → (kx_nx g c l) b = g b := by
  intro l
  induction l with
  | nil => intro g c h; exact ⟨h, fun _ _ => rfl, fun j => by rw [if_neg (by simp only [List.length_nil]; omega)]; rfl, fun _ _ _ => rfl⟩
  | cons b l ih =>
    intro g c h
    obtain ⟨h1, h2, h3, h4⟩ := ih (kv_up (kv_up g 54 c b) 53 1 (nI (c + 1))) (c + 1) rfl
    refine ⟨?_, fun k hk => (h2 k hk).trans (kx_upn hk), fun j => ?_, fun x x1 x2 => (h4 x x1 x2).trans (by rw [kv_up_ne x1, kv_up_ne x2])⟩
    · show kx_nx _ (c + 1) l 53 1 = _
      rw [h1, List.length_cons]; congr 1; omega
    · show kx_nx _ (c + 1) l 54 j = _
      rw [h3, List.length_cons]
      show (if _ then _ else upd (g 54) c b j) = _
      by_cases hj : j = c
      · subst hj
        rw [if_neg (by omega), if_pos (by omega), kx_ups, Nat.sub_self]; rfl
      · rw [kx_upn hj]
        by_cases hjj : c + 1 ≤ j ∧ j < c + 1 + l.length
        · rw [if_pos hjj, if_pos (by omega), show j - c = (j - (c + 1)) + 1 by omega]; rfl
        · rw [if_neg hjj, if_neg (by omega)]
theorem kx_mx_f : ∀ (l : List Int32) (g : kv_S) (c : Nat), g 65 20 = nI c → (kx_mx g c l) 65 20 = nI (c + l.length) ∧ (∀ k, k ≠ 20 → (kx_mx g c l) 65 k = g 65 k) ∧ (∀ j, (kx_mx g c l) 75 j = if c ≤ j ∧ j < c + l.length then l.getD (j - c) 0 else g 75 j) ∧ ∀ b, b ≠ 65 → b ≠ 75 → (kx_mx g c l) b = g b := by
  intro l
  induction l with
  | nil => intro g c h; exact ⟨h, fun _ _ => rfl, fun j => by rw [if_neg (by simp only [List.length_nil]; omega)]; rfl, fun _ _ _ => rfl⟩
  | cons b l ih =>
    intro g c h
    obtain ⟨h1, h2, h3, h4⟩ := ih (kv_up (kv_up g 75 c b) 65 20 (nI (c + 1))) (c + 1) rfl
    refine ⟨?_, fun k hk => (h2 k hk).trans (kx_upn hk), fun j => ?_, fun x x1 x2 => (h4 x x1 x2).trans (by rw [kv_up_ne x1, kv_up_ne x2])⟩
    · show kx_mx _ (c + 1) l 65 20 = _
      rw [h1, List.length_cons]; congr 1; omega
    · show kx_mx _ (c + 1) l 75 j = _
      rw [h3, List.length_cons]
      show (if _ then _ else upd (g 75) c b j) = _
      by_cases hj : j = c
      · subst hj
        rw [if_neg (by omega), if_pos (by omega), kx_ups, Nat.sub_self]; rfl
      · rw [kx_upn hj]
        by_cases hjj : c + 1 ≤ j ∧ j < c + 1 + l.length
        · rw [if_pos hjj, if_pos (by omega), show j - c = (j - (c + 1)) + 1 by omega]; rfl
        · rw [if_neg hjj, if_neg (by omega)]
theorem kx_nx_app : ∀ (g : kv_S) (c : Nat) (l1 l2 : List Int32), kx_nx (kx_nx g c l1) (c + l1.length) l2 = kx_nx g c (l1 ++ l2) := by
  intro g c l1
  induction l1 generalizing g c with
  | nil => intro l2; rfl
  | cons b l ih =>
    intro l2
    show kx_nx (kx_nx _ (c + 1) l) (c + (l.length + 1)) l2 = kx_nx _ (c + 1) (l ++ l2)
    rw [show c + (l.length + 1) = c + 1 + l.length by omega]
    exact ih _ (c + 1) l2
theorem kx_mx_app : ∀ (g : kv_S) (c : Nat) (l1 l2 : List Int32), kx_mx (kx_mx g c l1) (c + l1.length) l2 = kx_mx g c (l1 ++ l2) := by
  intro g c l1
  induction l1 generalizing g c with
  | nil => intro l2; rfl
  | cons b l ih =>
    intro l2
    show kx_mx (kx_mx _ (c + 1) l) (c + (l.length + 1)) l2 = kx_mx _ (c + 1) (l ++ l2)
    rw [show c + (l.length + 1) = c + 1 + l.length by omega]
    exact ih _ (c + 1) l2
def kx_VS (g : kv_S) (c : Nat) (N M K : Int32) : Prop := g 53 1 = nI c ∧ g 53 2 = N ∧ g 53 3 = M ∧ g 53 4 = K
def kx_MS (g : kv_S) (c : Nat) (N M V : Int32) : Prop := g 65 20 = nI c ∧ g 65 21 = V ∧ g 65 22 = N ∧ g 65 23 = M
theorem kx_VS_nx {g : kv_S} {c : Nat} {N M K : Int32} (l : List Int32) (h : kx_VS g c N M K) : kx_VS (kx_nx g c l) (c + l.length) N M K := by
  obtain ⟨h1, h2, -, -⟩ := kx_nx_f l g c h.1
  exact ⟨h1, (h2 2 (by omega)).trans h.2.1, (h2 3 (by omega)).trans h.2.2.1, (h2 4 (by omega)).trans h.2.2.2⟩
theorem kx_MS_mx {g : kv_S} {c : Nat} {N M V : Int32} (l : List Int32) (h : kx_MS g c N M V) : kx_MS (kx_mx g c l) (c + l.length) N M V := by
  obtain ⟨h1, h2, -, -⟩ := kx_mx_f l g c h.1
  exact ⟨h1, (h2 21 (by omega)).trans h.2.1, (h2 22 (by omega)).trans h.2.2.1, (h2 23 (by omega)).trans h.2.2.2⟩
set_option maxRecDepth 100000 in
theorem ev_note {E : kv_V} {d : Nat} {g : kv_S} {w : kv_W} (c : Nat) (hc : g 53 1 = nI c) (h40 : c < 40) (b : Int32) : kv_ev E (d + 1) 76 [.ref 53, .int b] (kv_wd g w) none (kv_wd (kx_nx g c [b]) w) := by
  refine kx_ev (d := d + 0) (by decide) (Nat.le_of_ble_eq_true rfl) ?_
  refine kx_st 0 (pc' := 0) (L' := [some (.ref 53), some (.int b)]) (st' := []) (h' := kv_wd g w) rfl ?_
  refine kx_st 5 (pc' := 9) (L' := [some (.ref 53), some (.int b)]) (st' := [.int 40, .int (g 53 1)]) (h' := kv_wd g w) rfl ?_
  refine kx_bi (t := 32) rfl rfl (fun (h9 : 40 ≤ g 53 1) => ?_) (fun (h9 : ¬ (40 ≤ g 53 1)) => ?_)
  · exact absurd h9 (by rw [hc]; exact nI_ge (a := c) (b := 40) h40 (by omega))
  · refine kx_st 0 (pc' := 12) (L' := [some (.ref 53), some (.int b)]) (st' := []) (h' := kv_wd g w) rfl ?_
    refine kx_st 5 (pc' := 21) (L' := [some (.ref 53), some (.int b)]) (st' := [.int b, .int (g 53 1), .ref 54]) (h' := kv_wd g w) rfl ?_
    refine kx_is (k := c) rfl rfl (by decide) hc (by omega) (by decide) ?_
    refine kx_st 5 (pc' := 29) (L' := [some (.ref 53), some (.int b)]) (st' := [.int (((kv_up g 54 c b) 53 1) + 1), .ref 53]) (h' := kv_wd (kv_up g 54 c b) w) rfl ?_
    refine kx_pf (i := 13) (k := 1) (x := (((kv_up g 54 c b) 53 1) + 1)) rfl rfl (by decide) rfl (Nat.le_of_ble_eq_true rfl) rfl rfl rfl ?_
    refine kx_ret (v := none) rfl ?_
    refine ⟨rfl, ?_⟩
    rw [show (kv_up g 54 c b) 53 1 + 1 = nI (c + 1) from by show g 53 1 + 1 = _; rw [hc, nI_succ]]
    rfl
set_option maxRecDepth 100000 in
theorem ev_ran {E : kv_V} {d : Nat} {g : kv_S} {w : kv_W} (c : Nat) (hc : g 65 20 = nI c) (h40 : c < 40) (b : Int32) : kv_ev E (d + 1) 203 [.ref 65, .int b] (kv_wd g w) none (kv_wd (kx_mx g c [b]) w) := by
  refine kx_ev (d := d + 0) (by decide) (Nat.le_of_ble_eq_true rfl) ?_
  refine kx_st 0 (pc' := 0) (L' := [some (.ref 65), some (.int b)]) (st' := []) (h' := kv_wd g w) rfl ?_
  refine kx_st 3 (pc' := 6) (L' := [some (.ref 65), some (.int b)]) (st' := [.int 40, .int (g 65 20)]) (h' := kv_wd g w) rfl ?_
  refine kx_bi (t := 29) rfl rfl (fun (h6 : 40 ≤ g 65 20) => ?_) (fun (h6 : ¬ (40 ≤ g 65 20)) => ?_)
  · exact absurd h6 (by rw [hc]; exact nI_ge (a := c) (b := 40) h40 (by omega))
  · refine kx_st 0 (pc' := 9) (L' := [some (.ref 65), some (.int b)]) (st' := []) (h' := kv_wd g w) rfl ?_
    refine kx_st 5 (pc' := 18) (L' := [some (.ref 65), some (.int b)]) (st' := [.int b, .int (g 65 20), .ref 75]) (h' := kv_wd g w) rfl ?_
    refine kx_is (k := c) rfl rfl (by decide) hc (by omega) (by decide) ?_
    refine kx_st 5 (pc' := 26) (L' := [some (.ref 65), some (.int b)]) (st' := [.int (((kv_up g 75 c b) 65 20) + 1), .ref 65]) (h' := kv_wd (kv_up g 75 c b) w) rfl ?_
    refine kx_pf (i := 217) (k := 20) (x := (((kv_up g 75 c b) 65 20) + 1)) rfl rfl (by decide) rfl (Nat.le_of_ble_eq_true rfl) rfl rfl rfl ?_
    refine kx_ret (v := none) rfl ?_
    refine ⟨rfl, ?_⟩
    rw [show (kv_up g 75 c b) 65 20 + 1 = nI (c + 1) from by show g 65 20 + 1 = _; rw [hc, nI_succ]]
    rfl
set_option maxRecDepth 100000 in
theorem ev_bodyOf_0_0 {E : kv_V} {d : Nat} {g : kv_S} {w : kv_W} (hE1 : E 1001 = some (0, 7, kv_KA)) (hE3 : E 1003 = some (0, 28, kv_BO)) : kv_ev E (d + 2) 75 [.int 0, .int 0] (kv_wd g w) (some (.int 10)) (kv_wd g w) := by
  refine kx_ev (d := d + 1) (by decide) (Nat.le_of_ble_eq_true rfl) ?_
  refine kx_st 0 (pc' := 0) (L' := [some (.int 0), some (.int 0), none, none, none]) (st' := []) (h' := kv_wd g w) rfl ?_
  refine kx_st 6 (pc' := 8) (L' := [some (.int 0), some (.int 0), some (.int 0), some (.int 0), none]) (st' := [.ref 1003, .int 0]) (h' := kv_wd g w) rfl ?_
  refine kx_aE (n := 28) rfl hE3 (by decide) ?_
  refine kx_st 1 (pc' := 12) (L' := [some (.int 0), some (.int 0), some (.int 0), some (.int 0), none]) (st' := []) (h' := kv_wd g w) rfl ?_
  refine kx_st 1 (pc' := 13) (L' := [some (.int 0), some (.int 0), some (.int 0), some (.int 0), none]) (st' := [.int 0]) (h' := kv_wd g w) rfl ?_
  refine kx_st 1 (pc' := 16) (L' := [some (.int 0), some (.int 0), some (.int 0), some (.int 0), none]) (st' := []) (h' := kv_wd g w) rfl ?_
  refine kx_st 7 (pc' := 25) (L' := [some (.int 0), some (.int 0), some (.int 0), some (.int 0), some (.int 0)]) (st' := [.int 0]) (h' := kv_wd g w) rfl ?_
  refine kx_st 1 (pc' := 28) (L' := [some (.int 0), some (.int 0), some (.int 0), some (.int 0), some (.int 0)]) (st' := []) (h' := kv_wd g w) rfl ?_
  refine kx_st 2 (pc' := 33) (L' := [some (.int 0), some (.int 0), some (.int 0), some (.int 0), some (.int 0)]) (st' := [.ref 1003, .int 0]) (h' := kv_wd g w) rfl ?_
  refine kx_aE (n := 28) rfl hE3 (by decide) ?_
  refine kx_st 1 (pc' := 37) (L' := [some (.int 0), some (.int 0), some (.int 0), some (.int 0), some (.int 0)]) (st' := []) (h' := kv_wd g w) rfl ?_
  refine kx_st 2 (pc' := 42) (L' := [some (.int 0), some (.int 0), some (.int 0), some (.int 0), some (.int 0)]) (st' := [.int 0, .ref 1003]) (h' := kv_wd g w) rfl ?_
  refine kx_iE (k := 0) (f := kv_BO) rfl hE3 (by decide) rfl (by decide) (by omega) ?_
  refine kx_st 0 (pc' := 43) (L' := [some (.int 0), some (.int 0), some (.int 0), some (.int 0), some (.int 0)]) (st' := [.int 10]) (h' := kv_wd g w) rfl ?_
  refine kx_st 1 (pc' := 46) (L' := [some (.int 0), some (.int 0), some (.int 0), some (.int 0), some (.int 0)]) (st' := []) (h' := kv_wd g w) rfl ?_
  refine kx_st 2 (pc' := 51) (L' := [some (.int 0), some (.int 0), some (.int 0), some (.int 0), some (.int 0)]) (st' := [.int 0, .ref 1003]) (h' := kv_wd g w) rfl ?_
  refine kx_iE (k := 0) (f := kv_BO) rfl hE3 (by decide) rfl (by decide) (by omega) ?_
  refine kx_st 0 (pc' := 52) (L' := [some (.int 0), some (.int 0), some (.int 0), some (.int 0), some (.int 0)]) (st' := [.int 10]) (h' := kv_wd g w) rfl ?_
  refine kx_ret (v := some (.int 10)) rfl ?_
  exact ⟨rfl, rfl⟩
set_option maxRecDepth 100000 in
theorem ev_bodyOf_0_1 {E : kv_V} {d : Nat} {g : kv_S} {w : kv_W} (hE1 : E 1001 = some (0, 7, kv_KA)) (hE3 : E 1003 = some (0, 28, kv_BO)) : kv_ev E (d + 2) 75 [.int 0, .int 1] (kv_wd g w) (some (.int 11)) (kv_wd g w) := by
  refine kx_ev (d := d + 1) (by decide) (Nat.le_of_ble_eq_true rfl) ?_
  refine kx_st 0 (pc' := 0) (L' := [some (.int 0), some (.int 1), none, none, none]) (st' := []) (h' := kv_wd g w) rfl ?_
  refine kx_st 6 (pc' := 8) (L' := [some (.int 0), some (.int 1), some (.int 0), some (.int 0), none]) (st' := [.ref 1003, .int 0]) (h' := kv_wd g w) rfl ?_
  refine kx_aE (n := 28) rfl hE3 (by decide) ?_
  refine kx_st 1 (pc' := 12) (L' := [some (.int 0), some (.int 1), some (.int 0), some (.int 0), none]) (st' := []) (h' := kv_wd g w) rfl ?_
  refine kx_st 1 (pc' := 13) (L' := [some (.int 0), some (.int 1), some (.int 0), some (.int 0), none]) (st' := [.int 0]) (h' := kv_wd g w) rfl ?_
  refine kx_st 1 (pc' := 16) (L' := [some (.int 0), some (.int 1), some (.int 0), some (.int 0), none]) (st' := []) (h' := kv_wd g w) rfl ?_
  refine kx_st 7 (pc' := 25) (L' := [some (.int 0), some (.int 1), some (.int 0), some (.int 0), some (.int 1)]) (st' := [.int 1]) (h' := kv_wd g w) rfl ?_
  refine kx_st 1 (pc' := 28) (L' := [some (.int 0), some (.int 1), some (.int 0), some (.int 0), some (.int 1)]) (st' := []) (h' := kv_wd g w) rfl ?_
  refine kx_st 2 (pc' := 33) (L' := [some (.int 0), some (.int 1), some (.int 0), some (.int 0), some (.int 1)]) (st' := [.ref 1003, .int 1]) (h' := kv_wd g w) rfl ?_
  refine kx_aE (n := 28) rfl hE3 (by decide) ?_
  refine kx_st 1 (pc' := 37) (L' := [some (.int 0), some (.int 1), some (.int 0), some (.int 0), some (.int 1)]) (st' := []) (h' := kv_wd g w) rfl ?_
  refine kx_st 2 (pc' := 42) (L' := [some (.int 0), some (.int 1), some (.int 0), some (.int 0), some (.int 1)]) (st' := [.int 1, .ref 1003]) (h' := kv_wd g w) rfl ?_
  refine kx_iE (k := 1) (f := kv_BO) rfl hE3 (by decide) rfl (by decide) (by omega) ?_
  refine kx_st 0 (pc' := 43) (L' := [some (.int 0), some (.int 1), some (.int 0), some (.int 0), some (.int 1)]) (st' := [.int 11]) (h' := kv_wd g w) rfl ?_
  refine kx_st 1 (pc' := 46) (L' := [some (.int 0), some (.int 1), some (.int 0), some (.int 0), some (.int 1)]) (st' := []) (h' := kv_wd g w) rfl ?_
  refine kx_st 2 (pc' := 51) (L' := [some (.int 0), some (.int 1), some (.int 0), some (.int 0), some (.int 1)]) (st' := [.int 1, .ref 1003]) (h' := kv_wd g w) rfl ?_
  refine kx_iE (k := 1) (f := kv_BO) rfl hE3 (by decide) rfl (by decide) (by omega) ?_
  refine kx_st 0 (pc' := 52) (L' := [some (.int 0), some (.int 1), some (.int 0), some (.int 0), some (.int 1)]) (st' := [.int 11]) (h' := kv_wd g w) rfl ?_
  refine kx_ret (v := some (.int 11)) rfl ?_
  exact ⟨rfl, rfl⟩
set_option maxRecDepth 100000 in
theorem ev_bodyOf_0_2 {E : kv_V} {d : Nat} {g : kv_S} {w : kv_W} (hE1 : E 1001 = some (0, 7, kv_KA)) (hE3 : E 1003 = some (0, 28, kv_BO)) : kv_ev E (d + 2) 75 [.int 0, .int 2] (kv_wd g w) (some (.int 12)) (kv_wd g w) := by
  refine kx_ev (d := d + 1) (by decide) (Nat.le_of_ble_eq_true rfl) ?_
  refine kx_st 0 (pc' := 0) (L' := [some (.int 0), some (.int 2), none, none, none]) (st' := []) (h' := kv_wd g w) rfl ?_
  refine kx_st 6 (pc' := 8) (L' := [some (.int 0), some (.int 2), some (.int 0), some (.int 0), none]) (st' := [.ref 1003, .int 0]) (h' := kv_wd g w) rfl ?_
  refine kx_aE (n := 28) rfl hE3 (by decide) ?_
  refine kx_st 1 (pc' := 12) (L' := [some (.int 0), some (.int 2), some (.int 0), some (.int 0), none]) (st' := []) (h' := kv_wd g w) rfl ?_
  refine kx_st 1 (pc' := 13) (L' := [some (.int 0), some (.int 2), some (.int 0), some (.int 0), none]) (st' := [.int 0]) (h' := kv_wd g w) rfl ?_
  refine kx_st 1 (pc' := 16) (L' := [some (.int 0), some (.int 2), some (.int 0), some (.int 0), none]) (st' := []) (h' := kv_wd g w) rfl ?_
  refine kx_st 7 (pc' := 25) (L' := [some (.int 0), some (.int 2), some (.int 0), some (.int 0), some (.int 2)]) (st' := [.int 2]) (h' := kv_wd g w) rfl ?_
  refine kx_st 1 (pc' := 28) (L' := [some (.int 0), some (.int 2), some (.int 0), some (.int 0), some (.int 2)]) (st' := []) (h' := kv_wd g w) rfl ?_
  refine kx_st 2 (pc' := 33) (L' := [some (.int 0), some (.int 2), some (.int 0), some (.int 0), some (.int 2)]) (st' := [.ref 1003, .int 2]) (h' := kv_wd g w) rfl ?_
  refine kx_aE (n := 28) rfl hE3 (by decide) ?_
  refine kx_st 1 (pc' := 37) (L' := [some (.int 0), some (.int 2), some (.int 0), some (.int 0), some (.int 2)]) (st' := []) (h' := kv_wd g w) rfl ?_
  refine kx_st 2 (pc' := 42) (L' := [some (.int 0), some (.int 2), some (.int 0), some (.int 0), some (.int 2)]) (st' := [.int 2, .ref 1003]) (h' := kv_wd g w) rfl ?_
  refine kx_iE (k := 2) (f := kv_BO) rfl hE3 (by decide) rfl (by decide) (by omega) ?_
  refine kx_st 0 (pc' := 43) (L' := [some (.int 0), some (.int 2), some (.int 0), some (.int 0), some (.int 2)]) (st' := [.int 12]) (h' := kv_wd g w) rfl ?_
  refine kx_st 1 (pc' := 46) (L' := [some (.int 0), some (.int 2), some (.int 0), some (.int 0), some (.int 2)]) (st' := []) (h' := kv_wd g w) rfl ?_
  refine kx_st 2 (pc' := 51) (L' := [some (.int 0), some (.int 2), some (.int 0), some (.int 0), some (.int 2)]) (st' := [.int 2, .ref 1003]) (h' := kv_wd g w) rfl ?_
  refine kx_iE (k := 2) (f := kv_BO) rfl hE3 (by decide) rfl (by decide) (by omega) ?_
  refine kx_st 0 (pc' := 52) (L' := [some (.int 0), some (.int 2), some (.int 0), some (.int 0), some (.int 2)]) (st' := [.int 12]) (h' := kv_wd g w) rfl ?_
  refine kx_ret (v := some (.int 12)) rfl ?_
  exact ⟨rfl, rfl⟩
set_option maxRecDepth 100000 in
theorem ev_bodyOf_0_3 {E : kv_V} {d : Nat} {g : kv_S} {w : kv_W} (hE1 : E 1001 = some (0, 7, kv_KA)) (hE3 : E 1003 = some (0, 28, kv_BO)) : kv_ev E (d + 2) 75 [.int 0, .int 3] (kv_wd g w) (some (.int 13)) (kv_wd g w) := by
  refine kx_ev (d := d + 1) (by decide) (Nat.le_of_ble_eq_true rfl) ?_
  refine kx_st 0 (pc' := 0) (L' := [some (.int 0), some (.int 3), none, none, none]) (st' := []) (h' := kv_wd g w) rfl ?_
  refine kx_st 6 (pc' := 8) (L' := [some (.int 0), some (.int 3), some (.int 0), some (.int 0), none]) (st' := [.ref 1003, .int 0]) (h' := kv_wd g w) rfl ?_
  refine kx_aE (n := 28) rfl hE3 (by decide) ?_
  refine kx_st 1 (pc' := 12) (L' := [some (.int 0), some (.int 3), some (.int 0), some (.int 0), none]) (st' := []) (h' := kv_wd g w) rfl ?_
  refine kx_st 1 (pc' := 13) (L' := [some (.int 0), some (.int 3), some (.int 0), some (.int 0), none]) (st' := [.int 0]) (h' := kv_wd g w) rfl ?_
  refine kx_st 1 (pc' := 16) (L' := [some (.int 0), some (.int 3), some (.int 0), some (.int 0), none]) (st' := []) (h' := kv_wd g w) rfl ?_
  refine kx_st 7 (pc' := 25) (L' := [some (.int 0), some (.int 3), some (.int 0), some (.int 0), some (.int 3)]) (st' := [.int 3]) (h' := kv_wd g w) rfl ?_
  refine kx_st 1 (pc' := 28) (L' := [some (.int 0), some (.int 3), some (.int 0), some (.int 0), some (.int 3)]) (st' := []) (h' := kv_wd g w) rfl ?_
  refine kx_st 2 (pc' := 33) (L' := [some (.int 0), some (.int 3), some (.int 0), some (.int 0), some (.int 3)]) (st' := [.ref 1003, .int 3]) (h' := kv_wd g w) rfl ?_
  refine kx_aE (n := 28) rfl hE3 (by decide) ?_
  refine kx_st 1 (pc' := 37) (L' := [some (.int 0), some (.int 3), some (.int 0), some (.int 0), some (.int 3)]) (st' := []) (h' := kv_wd g w) rfl ?_
  refine kx_st 2 (pc' := 42) (L' := [some (.int 0), some (.int 3), some (.int 0), some (.int 0), some (.int 3)]) (st' := [.int 3, .ref 1003]) (h' := kv_wd g w) rfl ?_
  refine kx_iE (k := 3) (f := kv_BO) rfl hE3 (by decide) rfl (by decide) (by omega) ?_
  refine kx_st 0 (pc' := 43) (L' := [some (.int 0), some (.int 3), some (.int 0), some (.int 0), some (.int 3)]) (st' := [.int 13]) (h' := kv_wd g w) rfl ?_
  refine kx_st 1 (pc' := 46) (L' := [some (.int 0), some (.int 3), some (.int 0), some (.int 0), some (.int 3)]) (st' := []) (h' := kv_wd g w) rfl ?_
  refine kx_st 2 (pc' := 51) (L' := [some (.int 0), some (.int 3), some (.int 0), some (.int 0), some (.int 3)]) (st' := [.int 3, .ref 1003]) (h' := kv_wd g w) rfl ?_
  refine kx_iE (k := 3) (f := kv_BO) rfl hE3 (by decide) rfl (by decide) (by omega) ?_
  refine kx_st 0 (pc' := 52) (L' := [some (.int 0), some (.int 3), some (.int 0), some (.int 0), some (.int 3)]) (st' := [.int 13]) (h' := kv_wd g w) rfl ?_
  refine kx_ret (v := some (.int 13)) rfl ?_
  exact ⟨rfl, rfl⟩
set_option maxRecDepth 100000 in
theorem ev_bodyOf_1_0 {E : kv_V} {d : Nat} {g : kv_S} {w : kv_W} (hE1 : E 1001 = some (0, 7, kv_KA)) (hE3 : E 1003 = some (0, 28, kv_BO)) : kv_ev E (d + 2) 75 [.int 1, .int 0] (kv_wd g w) (some (.int 20)) (kv_wd g w) := by
  refine kx_ev (d := d + 1) (by decide) (Nat.le_of_ble_eq_true rfl) ?_
  refine kx_st 0 (pc' := 0) (L' := [some (.int 1), some (.int 0), none, none, none]) (st' := []) (h' := kv_wd g w) rfl ?_
  refine kx_st 6 (pc' := 8) (L' := [some (.int 1), some (.int 0), some (.int 1), some (.int 0), none]) (st' := [.ref 1003, .int 0]) (h' := kv_wd g w) rfl ?_
  refine kx_aE (n := 28) rfl hE3 (by decide) ?_
  refine kx_st 1 (pc' := 12) (L' := [some (.int 1), some (.int 0), some (.int 1), some (.int 0), none]) (st' := []) (h' := kv_wd g w) rfl ?_
  refine kx_st 1 (pc' := 13) (L' := [some (.int 1), some (.int 0), some (.int 1), some (.int 0), none]) (st' := [.int 1]) (h' := kv_wd g w) rfl ?_
  refine kx_st 1 (pc' := 16) (L' := [some (.int 1), some (.int 0), some (.int 1), some (.int 0), none]) (st' := []) (h' := kv_wd g w) rfl ?_
  refine kx_st 7 (pc' := 25) (L' := [some (.int 1), some (.int 0), some (.int 1), some (.int 0), some (.int 4)]) (st' := [.int 4]) (h' := kv_wd g w) rfl ?_
  refine kx_st 1 (pc' := 28) (L' := [some (.int 1), some (.int 0), some (.int 1), some (.int 0), some (.int 4)]) (st' := []) (h' := kv_wd g w) rfl ?_
  refine kx_st 2 (pc' := 33) (L' := [some (.int 1), some (.int 0), some (.int 1), some (.int 0), some (.int 4)]) (st' := [.ref 1003, .int 4]) (h' := kv_wd g w) rfl ?_
  refine kx_aE (n := 28) rfl hE3 (by decide) ?_
  refine kx_st 1 (pc' := 37) (L' := [some (.int 1), some (.int 0), some (.int 1), some (.int 0), some (.int 4)]) (st' := []) (h' := kv_wd g w) rfl ?_
  refine kx_st 2 (pc' := 42) (L' := [some (.int 1), some (.int 0), some (.int 1), some (.int 0), some (.int 4)]) (st' := [.int 4, .ref 1003]) (h' := kv_wd g w) rfl ?_
  refine kx_iE (k := 4) (f := kv_BO) rfl hE3 (by decide) rfl (by decide) (by omega) ?_
  refine kx_st 0 (pc' := 43) (L' := [some (.int 1), some (.int 0), some (.int 1), some (.int 0), some (.int 4)]) (st' := [.int 20]) (h' := kv_wd g w) rfl ?_
  refine kx_st 1 (pc' := 46) (L' := [some (.int 1), some (.int 0), some (.int 1), some (.int 0), some (.int 4)]) (st' := []) (h' := kv_wd g w) rfl ?_
  refine kx_st 2 (pc' := 51) (L' := [some (.int 1), some (.int 0), some (.int 1), some (.int 0), some (.int 4)]) (st' := [.int 4, .ref 1003]) (h' := kv_wd g w) rfl ?_
  refine kx_iE (k := 4) (f := kv_BO) rfl hE3 (by decide) rfl (by decide) (by omega) ?_
  refine kx_st 0 (pc' := 52) (L' := [some (.int 1), some (.int 0), some (.int 1), some (.int 0), some (.int 4)]) (st' := [.int 20]) (h' := kv_wd g w) rfl ?_
  refine kx_ret (v := some (.int 20)) rfl ?_
  exact ⟨rfl, rfl⟩
set_option maxRecDepth 100000 in
theorem ev_bodyOf_1_1 {E : kv_V} {d : Nat} {g : kv_S} {w : kv_W} (hE1 : E 1001 = some (0, 7, kv_KA)) (hE3 : E 1003 = some (0, 28, kv_BO)) : kv_ev E (d + 2) 75 [.int 1, .int 1] (kv_wd g w) (some (.int 11)) (kv_wd g w) := by
  refine kx_ev (d := d + 1) (by decide) (Nat.le_of_ble_eq_true rfl) ?_
  refine kx_st 0 (pc' := 0) (L' := [some (.int 1), some (.int 1), none, none, none]) (st' := []) (h' := kv_wd g w) rfl ?_
  refine kx_st 6 (pc' := 8) (L' := [some (.int 1), some (.int 1), some (.int 1), some (.int 0), none]) (st' := [.ref 1003, .int 0]) (h' := kv_wd g w) rfl ?_
  refine kx_aE (n := 28) rfl hE3 (by decide) ?_
  refine kx_st 1 (pc' := 12) (L' := [some (.int 1), some (.int 1), some (.int 1), some (.int 0), none]) (st' := []) (h' := kv_wd g w) rfl ?_
  refine kx_st 1 (pc' := 13) (L' := [some (.int 1), some (.int 1), some (.int 1), some (.int 0), none]) (st' := [.int 1]) (h' := kv_wd g w) rfl ?_
  refine kx_st 1 (pc' := 16) (L' := [some (.int 1), some (.int 1), some (.int 1), some (.int 0), none]) (st' := []) (h' := kv_wd g w) rfl ?_
  refine kx_st 7 (pc' := 25) (L' := [some (.int 1), some (.int 1), some (.int 1), some (.int 0), some (.int 5)]) (st' := [.int 5]) (h' := kv_wd g w) rfl ?_
  refine kx_st 1 (pc' := 28) (L' := [some (.int 1), some (.int 1), some (.int 1), some (.int 0), some (.int 5)]) (st' := []) (h' := kv_wd g w) rfl ?_
  refine kx_st 2 (pc' := 33) (L' := [some (.int 1), some (.int 1), some (.int 1), some (.int 0), some (.int 5)]) (st' := [.ref 1003, .int 5]) (h' := kv_wd g w) rfl ?_
  refine kx_aE (n := 28) rfl hE3 (by decide) ?_
  refine kx_st 1 (pc' := 37) (L' := [some (.int 1), some (.int 1), some (.int 1), some (.int 0), some (.int 5)]) (st' := []) (h' := kv_wd g w) rfl ?_
  refine kx_st 2 (pc' := 42) (L' := [some (.int 1), some (.int 1), some (.int 1), some (.int 0), some (.int 5)]) (st' := [.int 5, .ref 1003]) (h' := kv_wd g w) rfl ?_
  refine kx_iE (k := 5) (f := kv_BO) rfl hE3 (by decide) rfl (by decide) (by omega) ?_
  refine kx_st 0 (pc' := 43) (L' := [some (.int 1), some (.int 1), some (.int 1), some (.int 0), some (.int 5)]) (st' := [.int 0]) (h' := kv_wd g w) rfl ?_
  refine kx_st 1 (pc' := 53) (L' := [some (.int 1), some (.int 1), some (.int 1), some (.int 0), some (.int 5)]) (st' := []) (h' := kv_wd g w) rfl ?_
  refine kx_st 1 (pc' := 54) (L' := [some (.int 1), some (.int 1), some (.int 1), some (.int 0), some (.int 5)]) (st' := [.int 1]) (h' := kv_wd g w) rfl ?_
  refine kx_call (z := 28) (as := [.int 1]) (rest := []) (v := some (.int 0)) (h1 := kv_wd g w) rfl (ev_above_1 (d := d) hE1) ?_
  refine kx_st 0 (pc' := 57) (L' := [some (.int 1), some (.int 1), some (.int 1), some (.int 0), some (.int 5)]) (st' := [.int 0]) (h' := kv_wd g w) rfl ?_
  refine kx_st 5 (pc' := 8) (L' := [some (.int 1), some (.int 1), some (.int 0), some (.int 1), some (.int 5)]) (st' := [.ref 1003, .int 1]) (h' := kv_wd g w) rfl ?_
  refine kx_aE (n := 28) rfl hE3 (by decide) ?_
  refine kx_st 1 (pc' := 12) (L' := [some (.int 1), some (.int 1), some (.int 0), some (.int 1), some (.int 5)]) (st' := []) (h' := kv_wd g w) rfl ?_
  refine kx_st 1 (pc' := 13) (L' := [some (.int 1), some (.int 1), some (.int 0), some (.int 1), some (.int 5)]) (st' := [.int 0]) (h' := kv_wd g w) rfl ?_
  refine kx_st 1 (pc' := 16) (L' := [some (.int 1), some (.int 1), some (.int 0), some (.int 1), some (.int 5)]) (st' := []) (h' := kv_wd g w) rfl ?_
  refine kx_st 7 (pc' := 25) (L' := [some (.int 1), some (.int 1), some (.int 0), some (.int 1), some (.int 1)]) (st' := [.int 1]) (h' := kv_wd g w) rfl ?_
  refine kx_st 1 (pc' := 28) (L' := [some (.int 1), some (.int 1), some (.int 0), some (.int 1), some (.int 1)]) (st' := []) (h' := kv_wd g w) rfl ?_
  refine kx_st 2 (pc' := 33) (L' := [some (.int 1), some (.int 1), some (.int 0), some (.int 1), some (.int 1)]) (st' := [.ref 1003, .int 1]) (h' := kv_wd g w) rfl ?_
  refine kx_aE (n := 28) rfl hE3 (by decide) ?_
  refine kx_st 1 (pc' := 37) (L' := [some (.int 1), some (.int 1), some (.int 0), some (.int 1), some (.int 1)]) (st' := []) (h' := kv_wd g w) rfl ?_
  refine kx_st 2 (pc' := 42) (L' := [some (.int 1), some (.int 1), some (.int 0), some (.int 1), some (.int 1)]) (st' := [.int 1, .ref 1003]) (h' := kv_wd g w) rfl ?_
  refine kx_iE (k := 1) (f := kv_BO) rfl hE3 (by decide) rfl (by decide) (by omega) ?_
  refine kx_st 0 (pc' := 43) (L' := [some (.int 1), some (.int 1), some (.int 0), some (.int 1), some (.int 1)]) (st' := [.int 11]) (h' := kv_wd g w) rfl ?_
  refine kx_st 1 (pc' := 46) (L' := [some (.int 1), some (.int 1), some (.int 0), some (.int 1), some (.int 1)]) (st' := []) (h' := kv_wd g w) rfl ?_
  refine kx_st 2 (pc' := 51) (L' := [some (.int 1), some (.int 1), some (.int 0), some (.int 1), some (.int 1)]) (st' := [.int 1, .ref 1003]) (h' := kv_wd g w) rfl ?_
  refine kx_iE (k := 1) (f := kv_BO) rfl hE3 (by decide) rfl (by decide) (by omega) ?_
  refine kx_st 0 (pc' := 52) (L' := [some (.int 1), some (.int 1), some (.int 0), some (.int 1), some (.int 1)]) (st' := [.int 11]) (h' := kv_wd g w) rfl ?_
  refine kx_ret (v := some (.int 11)) rfl ?_
  exact ⟨rfl, rfl⟩
set_option maxRecDepth 100000 in
theorem ev_bodyOf_1_2 {E : kv_V} {d : Nat} {g : kv_S} {w : kv_W} (hE1 : E 1001 = some (0, 7, kv_KA)) (hE3 : E 1003 = some (0, 28, kv_BO)) : kv_ev E (d + 2) 75 [.int 1, .int 2] (kv_wd g w) (some (.int 12)) (kv_wd g w) := by
  refine kx_ev (d := d + 1) (by decide) (Nat.le_of_ble_eq_true rfl) ?_
  refine kx_st 0 (pc' := 0) (L' := [some (.int 1), some (.int 2), none, none, none]) (st' := []) (h' := kv_wd g w) rfl ?_
  refine kx_st 6 (pc' := 8) (L' := [some (.int 1), some (.int 2), some (.int 1), some (.int 0), none]) (st' := [.ref 1003, .int 0]) (h' := kv_wd g w) rfl ?_
  refine kx_aE (n := 28) rfl hE3 (by decide) ?_
  refine kx_st 1 (pc' := 12) (L' := [some (.int 1), some (.int 2), some (.int 1), some (.int 0), none]) (st' := []) (h' := kv_wd g w) rfl ?_
  refine kx_st 1 (pc' := 13) (L' := [some (.int 1), some (.int 2), some (.int 1), some (.int 0), none]) (st' := [.int 1]) (h' := kv_wd g w) rfl ?_
  refine kx_st 1 (pc' := 16) (L' := [some (.int 1), some (.int 2), some (.int 1), some (.int 0), none]) (st' := []) (h' := kv_wd g w) rfl ?_
  refine kx_st 7 (pc' := 25) (L' := [some (.int 1), some (.int 2), some (.int 1), some (.int 0), some (.int 6)]) (st' := [.int 6]) (h' := kv_wd g w) rfl ?_
  refine kx_st 1 (pc' := 28) (L' := [some (.int 1), some (.int 2), some (.int 1), some (.int 0), some (.int 6)]) (st' := []) (h' := kv_wd g w) rfl ?_
  refine kx_st 2 (pc' := 33) (L' := [some (.int 1), some (.int 2), some (.int 1), some (.int 0), some (.int 6)]) (st' := [.ref 1003, .int 6]) (h' := kv_wd g w) rfl ?_
  refine kx_aE (n := 28) rfl hE3 (by decide) ?_
  refine kx_st 1 (pc' := 37) (L' := [some (.int 1), some (.int 2), some (.int 1), some (.int 0), some (.int 6)]) (st' := []) (h' := kv_wd g w) rfl ?_
  refine kx_st 2 (pc' := 42) (L' := [some (.int 1), some (.int 2), some (.int 1), some (.int 0), some (.int 6)]) (st' := [.int 6, .ref 1003]) (h' := kv_wd g w) rfl ?_
  refine kx_iE (k := 6) (f := kv_BO) rfl hE3 (by decide) rfl (by decide) (by omega) ?_
  refine kx_st 0 (pc' := 43) (L' := [some (.int 1), some (.int 2), some (.int 1), some (.int 0), some (.int 6)]) (st' := [.int 0]) (h' := kv_wd g w) rfl ?_
  refine kx_st 1 (pc' := 53) (L' := [some (.int 1), some (.int 2), some (.int 1), some (.int 0), some (.int 6)]) (st' := []) (h' := kv_wd g w) rfl ?_
  refine kx_st 1 (pc' := 54) (L' := [some (.int 1), some (.int 2), some (.int 1), some (.int 0), some (.int 6)]) (st' := [.int 1]) (h' := kv_wd g w) rfl ?_
  refine kx_call (z := 28) (as := [.int 1]) (rest := []) (v := some (.int 0)) (h1 := kv_wd g w) rfl (ev_above_1 (d := d) hE1) ?_
  refine kx_st 0 (pc' := 57) (L' := [some (.int 1), some (.int 2), some (.int 1), some (.int 0), some (.int 6)]) (st' := [.int 0]) (h' := kv_wd g w) rfl ?_
  refine kx_st 5 (pc' := 8) (L' := [some (.int 1), some (.int 2), some (.int 0), some (.int 1), some (.int 6)]) (st' := [.ref 1003, .int 1]) (h' := kv_wd g w) rfl ?_
  refine kx_aE (n := 28) rfl hE3 (by decide) ?_
  refine kx_st 1 (pc' := 12) (L' := [some (.int 1), some (.int 2), some (.int 0), some (.int 1), some (.int 6)]) (st' := []) (h' := kv_wd g w) rfl ?_
  refine kx_st 1 (pc' := 13) (L' := [some (.int 1), some (.int 2), some (.int 0), some (.int 1), some (.int 6)]) (st' := [.int 0]) (h' := kv_wd g w) rfl ?_
  refine kx_st 1 (pc' := 16) (L' := [some (.int 1), some (.int 2), some (.int 0), some (.int 1), some (.int 6)]) (st' := []) (h' := kv_wd g w) rfl ?_
  refine kx_st 7 (pc' := 25) (L' := [some (.int 1), some (.int 2), some (.int 0), some (.int 1), some (.int 2)]) (st' := [.int 2]) (h' := kv_wd g w) rfl ?_
  refine kx_st 1 (pc' := 28) (L' := [some (.int 1), some (.int 2), some (.int 0), some (.int 1), some (.int 2)]) (st' := []) (h' := kv_wd g w) rfl ?_
  refine kx_st 2 (pc' := 33) (L' := [some (.int 1), some (.int 2), some (.int 0), some (.int 1), some (.int 2)]) (st' := [.ref 1003, .int 2]) (h' := kv_wd g w) rfl ?_
  refine kx_aE (n := 28) rfl hE3 (by decide) ?_
  refine kx_st 1 (pc' := 37) (L' := [some (.int 1), some (.int 2), some (.int 0), some (.int 1), some (.int 2)]) (st' := []) (h' := kv_wd g w) rfl ?_
  refine kx_st 2 (pc' := 42) (L' := [some (.int 1), some (.int 2), some (.int 0), some (.int 1), some (.int 2)]) (st' := [.int 2, .ref 1003]) (h' := kv_wd g w) rfl ?_
  refine kx_iE (k := 2) (f := kv_BO) rfl hE3 (by decide) rfl (by decide) (by omega) ?_
  refine kx_st 0 (pc' := 43) (L' := [some (.int 1), some (.int 2), some (.int 0), some (.int 1), some (.int 2)]) (st' := [.int 12]) (h' := kv_wd g w) rfl ?_
  refine kx_st 1 (pc' := 46) (L' := [some (.int 1), some (.int 2), some (.int 0), some (.int 1), some (.int 2)]) (st' := []) (h' := kv_wd g w) rfl ?_
  refine kx_st 2 (pc' := 51) (L' := [some (.int 1), some (.int 2), some (.int 0), some (.int 1), some (.int 2)]) (st' := [.int 2, .ref 1003]) (h' := kv_wd g w) rfl ?_
  refine kx_iE (k := 2) (f := kv_BO) rfl hE3 (by decide) rfl (by decide) (by omega) ?_
  refine kx_st 0 (pc' := 52) (L' := [some (.int 1), some (.int 2), some (.int 0), some (.int 1), some (.int 2)]) (st' := [.int 12]) (h' := kv_wd g w) rfl ?_
  refine kx_ret (v := some (.int 12)) rfl ?_
  exact ⟨rfl, rfl⟩
set_option maxRecDepth 100000 in
theorem ev_bodyOf_1_3 {E : kv_V} {d : Nat} {g : kv_S} {w : kv_W} (hE1 : E 1001 = some (0, 7, kv_KA)) (hE3 : E 1003 = some (0, 28, kv_BO)) : kv_ev E (d + 2) 75 [.int 1, .int 3] (kv_wd g w) (some (.int 13)) (kv_wd g w) := by
  refine kx_ev (d := d + 1) (by decide) (Nat.le_of_ble_eq_true rfl) ?_
  refine kx_st 0 (pc' := 0) (L' := [some (.int 1), some (.int 3), none, none, none]) (st' := []) (h' := kv_wd g w) rfl ?_
  refine kx_st 6 (pc' := 8) (L' := [some (.int 1), some (.int 3), some (.int 1), some (.int 0), none]) (st' := [.ref 1003, .int 0]) (h' := kv_wd g w) rfl ?_
  refine kx_aE (n := 28) rfl hE3 (by decide) ?_
  refine kx_st 1 (pc' := 12) (L' := [some (.int 1), some (.int 3), some (.int 1), some (.int 0), none]) (st' := []) (h' := kv_wd g w) rfl ?_
  refine kx_st 1 (pc' := 13) (L' := [some (.int 1), some (.int 3), some (.int 1), some (.int 0), none]) (st' := [.int 1]) (h' := kv_wd g w) rfl ?_
  refine kx_st 1 (pc' := 16) (L' := [some (.int 1), some (.int 3), some (.int 1), some (.int 0), none]) (st' := []) (h' := kv_wd g w) rfl ?_
  refine kx_st 7 (pc' := 25) (L' := [some (.int 1), some (.int 3), some (.int 1), some (.int 0), some (.int 7)]) (st' := [.int 7]) (h' := kv_wd g w) rfl ?_
  refine kx_st 1 (pc' := 28) (L' := [some (.int 1), some (.int 3), some (.int 1), some (.int 0), some (.int 7)]) (st' := []) (h' := kv_wd g w) rfl ?_
  refine kx_st 2 (pc' := 33) (L' := [some (.int 1), some (.int 3), some (.int 1), some (.int 0), some (.int 7)]) (st' := [.ref 1003, .int 7]) (h' := kv_wd g w) rfl ?_
  refine kx_aE (n := 28) rfl hE3 (by decide) ?_
  refine kx_st 1 (pc' := 37) (L' := [some (.int 1), some (.int 3), some (.int 1), some (.int 0), some (.int 7)]) (st' := []) (h' := kv_wd g w) rfl ?_
  refine kx_st 2 (pc' := 42) (L' := [some (.int 1), some (.int 3), some (.int 1), some (.int 0), some (.int 7)]) (st' := [.int 7, .ref 1003]) (h' := kv_wd g w) rfl ?_
  refine kx_iE (k := 7) (f := kv_BO) rfl hE3 (by decide) rfl (by decide) (by omega) ?_
  refine kx_st 0 (pc' := 43) (L' := [some (.int 1), some (.int 3), some (.int 1), some (.int 0), some (.int 7)]) (st' := [.int 0]) (h' := kv_wd g w) rfl ?_
  refine kx_st 1 (pc' := 53) (L' := [some (.int 1), some (.int 3), some (.int 1), some (.int 0), some (.int 7)]) (st' := []) (h' := kv_wd g w) rfl ?_
  refine kx_st 1 (pc' := 54) (L' := [some (.int 1), some (.int 3), some (.int 1), some (.int 0), some (.int 7)]) (st' := [.int 1]) (h' := kv_wd g w) rfl ?_
  refine kx_call (z := 28) (as := [.int 1]) (rest := []) (v := some (.int 0)) (h1 := kv_wd g w) rfl (ev_above_1 (d := d) hE1) ?_
  refine kx_st 0 (pc' := 57) (L' := [some (.int 1), some (.int 3), some (.int 1), some (.int 0), some (.int 7)]) (st' := [.int 0]) (h' := kv_wd g w) rfl ?_
  refine kx_st 5 (pc' := 8) (L' := [some (.int 1), some (.int 3), some (.int 0), some (.int 1), some (.int 7)]) (st' := [.ref 1003, .int 1]) (h' := kv_wd g w) rfl ?_
  refine kx_aE (n := 28) rfl hE3 (by decide) ?_
  refine kx_st 1 (pc' := 12) (L' := [some (.int 1), some (.int 3), some (.int 0), some (.int 1), some (.int 7)]) (st' := []) (h' := kv_wd g w) rfl ?_
  refine kx_st 1 (pc' := 13) (L' := [some (.int 1), some (.int 3), some (.int 0), some (.int 1), some (.int 7)]) (st' := [.int 0]) (h' := kv_wd g w) rfl ?_
  refine kx_st 1 (pc' := 16) (L' := [some (.int 1), some (.int 3), some (.int 0), some (.int 1), some (.int 7)]) (st' := []) (h' := kv_wd g w) rfl ?_
  refine kx_st 7 (pc' := 25) (L' := [some (.int 1), some (.int 3), some (.int 0), some (.int 1), some (.int 3)]) (st' := [.int 3]) (h' := kv_wd g w) rfl ?_
  refine kx_st 1 (pc' := 28) (L' := [some (.int 1), some (.int 3), some (.int 0), some (.int 1), some (.int 3)]) (st' := []) (h' := kv_wd g w) rfl ?_
  refine kx_st 2 (pc' := 33) (L' := [some (.int 1), some (.int 3), some (.int 0), some (.int 1), some (.int 3)]) (st' := [.ref 1003, .int 3]) (h' := kv_wd g w) rfl ?_
  refine kx_aE (n := 28) rfl hE3 (by decide) ?_
  refine kx_st 1 (pc' := 37) (L' := [some (.int 1), some (.int 3), some (.int 0), some (.int 1), some (.int 3)]) (st' := []) (h' := kv_wd g w) rfl ?_
  refine kx_st 2 (pc' := 42) (L' := [some (.int 1), some (.int 3), some (.int 0), some (.int 1), some (.int 3)]) (st' := [.int 3, .ref 1003]) (h' := kv_wd g w) rfl ?_
  refine kx_iE (k := 3) (f := kv_BO) rfl hE3 (by decide) rfl (by decide) (by omega) ?_
  refine kx_st 0 (pc' := 43) (L' := [some (.int 1), some (.int 3), some (.int 0), some (.int 1), some (.int 3)]) (st' := [.int 13]) (h' := kv_wd g w) rfl ?_
  refine kx_st 1 (pc' := 46) (L' := [some (.int 1), some (.int 3), some (.int 0), some (.int 1), some (.int 3)]) (st' := []) (h' := kv_wd g w) rfl ?_
  refine kx_st 2 (pc' := 51) (L' := [some (.int 1), some (.int 3), some (.int 0), some (.int 1), some (.int 3)]) (st' := [.int 3, .ref 1003]) (h' := kv_wd g w) rfl ?_
  refine kx_iE (k := 3) (f := kv_BO) rfl hE3 (by decide) rfl (by decide) (by omega) ?_
  refine kx_st 0 (pc' := 52) (L' := [some (.int 1), some (.int 3), some (.int 0), some (.int 1), some (.int 3)]) (st' := [.int 13]) (h' := kv_wd g w) rfl ?_
  refine kx_ret (v := some (.int 13)) rfl ?_
  exact ⟨rfl, rfl⟩
set_option maxRecDepth 100000 in
theorem ev_bodyOf_2_0 {E : kv_V} {d : Nat} {g : kv_S} {w : kv_W} (hE1 : E 1001 = some (0, 7, kv_KA)) (hE3 : E 1003 = some (0, 28, kv_BO)) : kv_ev E (d + 2) 75 [.int 2, .int 0] (kv_wd g w) (some (.int 10)) (kv_wd g w) := by
  refine kx_ev (d := d + 1) (by decide) (Nat.le_of_ble_eq_true rfl) ?_
  refine kx_st 0 (pc' := 0) (L' := [some (.int 2), some (.int 0), none, none, none]) (st' := []) (h' := kv_wd g w) rfl ?_
  refine kx_st 6 (pc' := 8) (L' := [some (.int 2), some (.int 0), some (.int 2), some (.int 0), none]) (st' := [.ref 1003, .int 0]) (h' := kv_wd g w) rfl ?_
  refine kx_aE (n := 28) rfl hE3 (by decide) ?_
  refine kx_st 1 (pc' := 12) (L' := [some (.int 2), some (.int 0), some (.int 2), some (.int 0), none]) (st' := []) (h' := kv_wd g w) rfl ?_
  refine kx_st 1 (pc' := 13) (L' := [some (.int 2), some (.int 0), some (.int 2), some (.int 0), none]) (st' := [.int 2]) (h' := kv_wd g w) rfl ?_
  refine kx_st 1 (pc' := 16) (L' := [some (.int 2), some (.int 0), some (.int 2), some (.int 0), none]) (st' := []) (h' := kv_wd g w) rfl ?_
  refine kx_st 7 (pc' := 25) (L' := [some (.int 2), some (.int 0), some (.int 2), some (.int 0), some (.int 8)]) (st' := [.int 8]) (h' := kv_wd g w) rfl ?_
  refine kx_st 1 (pc' := 28) (L' := [some (.int 2), some (.int 0), some (.int 2), some (.int 0), some (.int 8)]) (st' := []) (h' := kv_wd g w) rfl ?_
  refine kx_st 2 (pc' := 33) (L' := [some (.int 2), some (.int 0), some (.int 2), some (.int 0), some (.int 8)]) (st' := [.ref 1003, .int 8]) (h' := kv_wd g w) rfl ?_
  refine kx_aE (n := 28) rfl hE3 (by decide) ?_
  refine kx_st 1 (pc' := 37) (L' := [some (.int 2), some (.int 0), some (.int 2), some (.int 0), some (.int 8)]) (st' := []) (h' := kv_wd g w) rfl ?_
  refine kx_st 2 (pc' := 42) (L' := [some (.int 2), some (.int 0), some (.int 2), some (.int 0), some (.int 8)]) (st' := [.int 8, .ref 1003]) (h' := kv_wd g w) rfl ?_
  refine kx_iE (k := 8) (f := kv_BO) rfl hE3 (by decide) rfl (by decide) (by omega) ?_
  refine kx_st 0 (pc' := 43) (L' := [some (.int 2), some (.int 0), some (.int 2), some (.int 0), some (.int 8)]) (st' := [.int 0]) (h' := kv_wd g w) rfl ?_
  refine kx_st 1 (pc' := 53) (L' := [some (.int 2), some (.int 0), some (.int 2), some (.int 0), some (.int 8)]) (st' := []) (h' := kv_wd g w) rfl ?_
  refine kx_st 1 (pc' := 54) (L' := [some (.int 2), some (.int 0), some (.int 2), some (.int 0), some (.int 8)]) (st' := [.int 2]) (h' := kv_wd g w) rfl ?_
  refine kx_call (z := 28) (as := [.int 2]) (rest := []) (v := some (.int 0)) (h1 := kv_wd g w) rfl (ev_above_2 (d := d) hE1) ?_
  refine kx_st 0 (pc' := 57) (L' := [some (.int 2), some (.int 0), some (.int 2), some (.int 0), some (.int 8)]) (st' := [.int 0]) (h' := kv_wd g w) rfl ?_
  refine kx_st 5 (pc' := 8) (L' := [some (.int 2), some (.int 0), some (.int 0), some (.int 1), some (.int 8)]) (st' := [.ref 1003, .int 1]) (h' := kv_wd g w) rfl ?_
  refine kx_aE (n := 28) rfl hE3 (by decide) ?_
  refine kx_st 1 (pc' := 12) (L' := [some (.int 2), some (.int 0), some (.int 0), some (.int 1), some (.int 8)]) (st' := []) (h' := kv_wd g w) rfl ?_
  refine kx_st 1 (pc' := 13) (L' := [some (.int 2), some (.int 0), some (.int 0), some (.int 1), some (.int 8)]) (st' := [.int 0]) (h' := kv_wd g w) rfl ?_
  refine kx_st 1 (pc' := 16) (L' := [some (.int 2), some (.int 0), some (.int 0), some (.int 1), some (.int 8)]) (st' := []) (h' := kv_wd g w) rfl ?_
  refine kx_st 7 (pc' := 25) (L' := [some (.int 2), some (.int 0), some (.int 0), some (.int 1), some (.int 0)]) (st' := [.int 0]) (h' := kv_wd g w) rfl ?_
  refine kx_st 1 (pc' := 28) (L' := [some (.int 2), some (.int 0), some (.int 0), some (.int 1), some (.int 0)]) (st' := []) (h' := kv_wd g w) rfl ?_
  refine kx_st 2 (pc' := 33) (L' := [some (.int 2), some (.int 0), some (.int 0), some (.int 1), some (.int 0)]) (st' := [.ref 1003, .int 0]) (h' := kv_wd g w) rfl ?_
  refine kx_aE (n := 28) rfl hE3 (by decide) ?_
  refine kx_st 1 (pc' := 37) (L' := [some (.int 2), some (.int 0), some (.int 0), some (.int 1), some (.int 0)]) (st' := []) (h' := kv_wd g w) rfl ?_
  refine kx_st 2 (pc' := 42) (L' := [some (.int 2), some (.int 0), some (.int 0), some (.int 1), some (.int 0)]) (st' := [.int 0, .ref 1003]) (h' := kv_wd g w) rfl ?_
  refine kx_iE (k := 0) (f := kv_BO) rfl hE3 (by decide) rfl (by decide) (by omega) ?_
  refine kx_st 0 (pc' := 43) (L' := [some (.int 2), some (.int 0), some (.int 0), some (.int 1), some (.int 0)]) (st' := [.int 10]) (h' := kv_wd g w) rfl ?_
  refine kx_st 1 (pc' := 46) (L' := [some (.int 2), some (.int 0), some (.int 0), some (.int 1), some (.int 0)]) (st' := []) (h' := kv_wd g w) rfl ?_
  refine kx_st 2 (pc' := 51) (L' := [some (.int 2), some (.int 0), some (.int 0), some (.int 1), some (.int 0)]) (st' := [.int 0, .ref 1003]) (h' := kv_wd g w) rfl ?_
  refine kx_iE (k := 0) (f := kv_BO) rfl hE3 (by decide) rfl (by decide) (by omega) ?_
  refine kx_st 0 (pc' := 52) (L' := [some (.int 2), some (.int 0), some (.int 0), some (.int 1), some (.int 0)]) (st' := [.int 10]) (h' := kv_wd g w) rfl ?_
  refine kx_ret (v := some (.int 10)) rfl ?_
  exact ⟨rfl, rfl⟩
set_option maxRecDepth 100000 in
theorem ev_bodyOf_2_1 {E : kv_V} {d : Nat} {g : kv_S} {w : kv_W} (hE1 : E 1001 = some (0, 7, kv_KA)) (hE3 : E 1003 = some (0, 28, kv_BO)) : kv_ev E (d + 2) 75 [.int 2, .int 1] (kv_wd g w) (some (.int 30)) (kv_wd g w) := by
  refine kx_ev (d := d + 1) (by decide) (Nat.le_of_ble_eq_true rfl) ?_
  refine kx_st 0 (pc' := 0) (L' := [some (.int 2), some (.int 1), none, none, none]) (st' := []) (h' := kv_wd g w) rfl ?_
  refine kx_st 6 (pc' := 8) (L' := [some (.int 2), some (.int 1), some (.int 2), some (.int 0), none]) (st' := [.ref 1003, .int 0]) (h' := kv_wd g w) rfl ?_
  refine kx_aE (n := 28) rfl hE3 (by decide) ?_
  refine kx_st 1 (pc' := 12) (L' := [some (.int 2), some (.int 1), some (.int 2), some (.int 0), none]) (st' := []) (h' := kv_wd g w) rfl ?_
  refine kx_st 1 (pc' := 13) (L' := [some (.int 2), some (.int 1), some (.int 2), some (.int 0), none]) (st' := [.int 2]) (h' := kv_wd g w) rfl ?_
  refine kx_st 1 (pc' := 16) (L' := [some (.int 2), some (.int 1), some (.int 2), some (.int 0), none]) (st' := []) (h' := kv_wd g w) rfl ?_
  refine kx_st 7 (pc' := 25) (L' := [some (.int 2), some (.int 1), some (.int 2), some (.int 0), some (.int 9)]) (st' := [.int 9]) (h' := kv_wd g w) rfl ?_
  refine kx_st 1 (pc' := 28) (L' := [some (.int 2), some (.int 1), some (.int 2), some (.int 0), some (.int 9)]) (st' := []) (h' := kv_wd g w) rfl ?_
  refine kx_st 2 (pc' := 33) (L' := [some (.int 2), some (.int 1), some (.int 2), some (.int 0), some (.int 9)]) (st' := [.ref 1003, .int 9]) (h' := kv_wd g w) rfl ?_
  refine kx_aE (n := 28) rfl hE3 (by decide) ?_
  refine kx_st 1 (pc' := 37) (L' := [some (.int 2), some (.int 1), some (.int 2), some (.int 0), some (.int 9)]) (st' := []) (h' := kv_wd g w) rfl ?_
  refine kx_st 2 (pc' := 42) (L' := [some (.int 2), some (.int 1), some (.int 2), some (.int 0), some (.int 9)]) (st' := [.int 9, .ref 1003]) (h' := kv_wd g w) rfl ?_
  refine kx_iE (k := 9) (f := kv_BO) rfl hE3 (by decide) rfl (by decide) (by omega) ?_
  refine kx_st 0 (pc' := 43) (L' := [some (.int 2), some (.int 1), some (.int 2), some (.int 0), some (.int 9)]) (st' := [.int 30]) (h' := kv_wd g w) rfl ?_
  refine kx_st 1 (pc' := 46) (L' := [some (.int 2), some (.int 1), some (.int 2), some (.int 0), some (.int 9)]) (st' := []) (h' := kv_wd g w) rfl ?_
  refine kx_st 2 (pc' := 51) (L' := [some (.int 2), some (.int 1), some (.int 2), some (.int 0), some (.int 9)]) (st' := [.int 9, .ref 1003]) (h' := kv_wd g w) rfl ?_
  refine kx_iE (k := 9) (f := kv_BO) rfl hE3 (by decide) rfl (by decide) (by omega) ?_
  refine kx_st 0 (pc' := 52) (L' := [some (.int 2), some (.int 1), some (.int 2), some (.int 0), some (.int 9)]) (st' := [.int 30]) (h' := kv_wd g w) rfl ?_
  refine kx_ret (v := some (.int 30)) rfl ?_
  exact ⟨rfl, rfl⟩
set_option maxRecDepth 100000 in
theorem ev_bodyOf_2_2 {E : kv_V} {d : Nat} {g : kv_S} {w : kv_W} (hE1 : E 1001 = some (0, 7, kv_KA)) (hE3 : E 1003 = some (0, 28, kv_BO)) : kv_ev E (d + 2) 75 [.int 2, .int 2] (kv_wd g w) (some (.int 12)) (kv_wd g w) := by
  refine kx_ev (d := d + 1) (by decide) (Nat.le_of_ble_eq_true rfl) ?_
  refine kx_st 0 (pc' := 0) (L' := [some (.int 2), some (.int 2), none, none, none]) (st' := []) (h' := kv_wd g w) rfl ?_
  refine kx_st 6 (pc' := 8) (L' := [some (.int 2), some (.int 2), some (.int 2), some (.int 0), none]) (st' := [.ref 1003, .int 0]) (h' := kv_wd g w) rfl ?_
  refine kx_aE (n := 28) rfl hE3 (by decide) ?_
  refine kx_st 1 (pc' := 12) (L' := [some (.int 2), some (.int 2), some (.int 2), some (.int 0), none]) (st' := []) (h' := kv_wd g w) rfl ?_
  refine kx_st 1 (pc' := 13) (L' := [some (.int 2), some (.int 2), some (.int 2), some (.int 0), none]) (st' := [.int 2]) (h' := kv_wd g w) rfl ?_
  refine kx_st 1 (pc' := 16) (L' := [some (.int 2), some (.int 2), some (.int 2), some (.int 0), none]) (st' := []) (h' := kv_wd g w) rfl ?_
  refine kx_st 7 (pc' := 25) (L' := [some (.int 2), some (.int 2), some (.int 2), some (.int 0), some (.int 10)]) (st' := [.int 10]) (h' := kv_wd g w) rfl ?_
  refine kx_st 1 (pc' := 28) (L' := [some (.int 2), some (.int 2), some (.int 2), some (.int 0), some (.int 10)]) (st' := []) (h' := kv_wd g w) rfl ?_
  refine kx_st 2 (pc' := 33) (L' := [some (.int 2), some (.int 2), some (.int 2), some (.int 0), some (.int 10)]) (st' := [.ref 1003, .int 10]) (h' := kv_wd g w) rfl ?_
  refine kx_aE (n := 28) rfl hE3 (by decide) ?_
  refine kx_st 1 (pc' := 37) (L' := [some (.int 2), some (.int 2), some (.int 2), some (.int 0), some (.int 10)]) (st' := []) (h' := kv_wd g w) rfl ?_
  refine kx_st 2 (pc' := 42) (L' := [some (.int 2), some (.int 2), some (.int 2), some (.int 0), some (.int 10)]) (st' := [.int 10, .ref 1003]) (h' := kv_wd g w) rfl ?_
  refine kx_iE (k := 10) (f := kv_BO) rfl hE3 (by decide) rfl (by decide) (by omega) ?_
  refine kx_st 0 (pc' := 43) (L' := [some (.int 2), some (.int 2), some (.int 2), some (.int 0), some (.int 10)]) (st' := [.int 0]) (h' := kv_wd g w) rfl ?_
  refine kx_st 1 (pc' := 53) (L' := [some (.int 2), some (.int 2), some (.int 2), some (.int 0), some (.int 10)]) (st' := []) (h' := kv_wd g w) rfl ?_
  refine kx_st 1 (pc' := 54) (L' := [some (.int 2), some (.int 2), some (.int 2), some (.int 0), some (.int 10)]) (st' := [.int 2]) (h' := kv_wd g w) rfl ?_
  refine kx_call (z := 28) (as := [.int 2]) (rest := []) (v := some (.int 0)) (h1 := kv_wd g w) rfl (ev_above_2 (d := d) hE1) ?_
  refine kx_st 0 (pc' := 57) (L' := [some (.int 2), some (.int 2), some (.int 2), some (.int 0), some (.int 10)]) (st' := [.int 0]) (h' := kv_wd g w) rfl ?_
  refine kx_st 5 (pc' := 8) (L' := [some (.int 2), some (.int 2), some (.int 0), some (.int 1), some (.int 10)]) (st' := [.ref 1003, .int 1]) (h' := kv_wd g w) rfl ?_
  refine kx_aE (n := 28) rfl hE3 (by decide) ?_
  refine kx_st 1 (pc' := 12) (L' := [some (.int 2), some (.int 2), some (.int 0), some (.int 1), some (.int 10)]) (st' := []) (h' := kv_wd g w) rfl ?_
  refine kx_st 1 (pc' := 13) (L' := [some (.int 2), some (.int 2), some (.int 0), some (.int 1), some (.int 10)]) (st' := [.int 0]) (h' := kv_wd g w) rfl ?_
  refine kx_st 1 (pc' := 16) (L' := [some (.int 2), some (.int 2), some (.int 0), some (.int 1), some (.int 10)]) (st' := []) (h' := kv_wd g w) rfl ?_
  refine kx_st 7 (pc' := 25) (L' := [some (.int 2), some (.int 2), some (.int 0), some (.int 1), some (.int 2)]) (st' := [.int 2]) (h' := kv_wd g w) rfl ?_
  refine kx_st 1 (pc' := 28) (L' := [some (.int 2), some (.int 2), some (.int 0), some (.int 1), some (.int 2)]) (st' := []) (h' := kv_wd g w) rfl ?_
  refine kx_st 2 (pc' := 33) (L' := [some (.int 2), some (.int 2), some (.int 0), some (.int 1), some (.int 2)]) (st' := [.ref 1003, .int 2]) (h' := kv_wd g w) rfl ?_
  refine kx_aE (n := 28) rfl hE3 (by decide) ?_
  refine kx_st 1 (pc' := 37) (L' := [some (.int 2), some (.int 2), some (.int 0), some (.int 1), some (.int 2)]) (st' := []) (h' := kv_wd g w) rfl ?_
  refine kx_st 2 (pc' := 42) (L' := [some (.int 2), some (.int 2), some (.int 0), some (.int 1), some (.int 2)]) (st' := [.int 2, .ref 1003]) (h' := kv_wd g w) rfl ?_
  refine kx_iE (k := 2) (f := kv_BO) rfl hE3 (by decide) rfl (by decide) (by omega) ?_
  refine kx_st 0 (pc' := 43) (L' := [some (.int 2), some (.int 2), some (.int 0), some (.int 1), some (.int 2)]) (st' := [.int 12]) (h' := kv_wd g w) rfl ?_
  refine kx_st 1 (pc' := 46) (L' := [some (.int 2), some (.int 2), some (.int 0), some (.int 1), some (.int 2)]) (st' := []) (h' := kv_wd g w) rfl ?_
  refine kx_st 2 (pc' := 51) (L' := [some (.int 2), some (.int 2), some (.int 0), some (.int 1), some (.int 2)]) (st' := [.int 2, .ref 1003]) (h' := kv_wd g w) rfl ?_
  refine kx_iE (k := 2) (f := kv_BO) rfl hE3 (by decide) rfl (by decide) (by omega) ?_
  refine kx_st 0 (pc' := 52) (L' := [some (.int 2), some (.int 2), some (.int 0), some (.int 1), some (.int 2)]) (st' := [.int 12]) (h' := kv_wd g w) rfl ?_
  refine kx_ret (v := some (.int 12)) rfl ?_
  exact ⟨rfl, rfl⟩
set_option maxRecDepth 100000 in
theorem ev_bodyOf_2_3 {E : kv_V} {d : Nat} {g : kv_S} {w : kv_W} (hE1 : E 1001 = some (0, 7, kv_KA)) (hE3 : E 1003 = some (0, 28, kv_BO)) : kv_ev E (d + 2) 75 [.int 2, .int 3] (kv_wd g w) (some (.int 13)) (kv_wd g w) := by
  refine kx_ev (d := d + 1) (by decide) (Nat.le_of_ble_eq_true rfl) ?_
  refine kx_st 0 (pc' := 0) (L' := [some (.int 2), some (.int 3), none, none, none]) (st' := []) (h' := kv_wd g w) rfl ?_
  refine kx_st 6 (pc' := 8) (L' := [some (.int 2), some (.int 3), some (.int 2), some (.int 0), none]) (st' := [.ref 1003, .int 0]) (h' := kv_wd g w) rfl ?_
  refine kx_aE (n := 28) rfl hE3 (by decide) ?_
  refine kx_st 1 (pc' := 12) (L' := [some (.int 2), some (.int 3), some (.int 2), some (.int 0), none]) (st' := []) (h' := kv_wd g w) rfl ?_
  refine kx_st 1 (pc' := 13) (L' := [some (.int 2), some (.int 3), some (.int 2), some (.int 0), none]) (st' := [.int 2]) (h' := kv_wd g w) rfl ?_
  refine kx_st 1 (pc' := 16) (L' := [some (.int 2), some (.int 3), some (.int 2), some (.int 0), none]) (st' := []) (h' := kv_wd g w) rfl ?_
  refine kx_st 7 (pc' := 25) (L' := [some (.int 2), some (.int 3), some (.int 2), some (.int 0), some (.int 11)]) (st' := [.int 11]) (h' := kv_wd g w) rfl ?_
  refine kx_st 1 (pc' := 28) (L' := [some (.int 2), some (.int 3), some (.int 2), some (.int 0), some (.int 11)]) (st' := []) (h' := kv_wd g w) rfl ?_
  refine kx_st 2 (pc' := 33) (L' := [some (.int 2), some (.int 3), some (.int 2), some (.int 0), some (.int 11)]) (st' := [.ref 1003, .int 11]) (h' := kv_wd g w) rfl ?_
  refine kx_aE (n := 28) rfl hE3 (by decide) ?_
  refine kx_st 1 (pc' := 37) (L' := [some (.int 2), some (.int 3), some (.int 2), some (.int 0), some (.int 11)]) (st' := []) (h' := kv_wd g w) rfl ?_
  refine kx_st 2 (pc' := 42) (L' := [some (.int 2), some (.int 3), some (.int 2), some (.int 0), some (.int 11)]) (st' := [.int 11, .ref 1003]) (h' := kv_wd g w) rfl ?_
  refine kx_iE (k := 11) (f := kv_BO) rfl hE3 (by decide) rfl (by decide) (by omega) ?_
  refine kx_st 0 (pc' := 43) (L' := [some (.int 2), some (.int 3), some (.int 2), some (.int 0), some (.int 11)]) (st' := [.int 0]) (h' := kv_wd g w) rfl ?_
  refine kx_st 1 (pc' := 53) (L' := [some (.int 2), some (.int 3), some (.int 2), some (.int 0), some (.int 11)]) (st' := []) (h' := kv_wd g w) rfl ?_
  refine kx_st 1 (pc' := 54) (L' := [some (.int 2), some (.int 3), some (.int 2), some (.int 0), some (.int 11)]) (st' := [.int 2]) (h' := kv_wd g w) rfl ?_
  refine kx_call (z := 28) (as := [.int 2]) (rest := []) (v := some (.int 0)) (h1 := kv_wd g w) rfl (ev_above_2 (d := d) hE1) ?_
  refine kx_st 0 (pc' := 57) (L' := [some (.int 2), some (.int 3), some (.int 2), some (.int 0), some (.int 11)]) (st' := [.int 0]) (h' := kv_wd g w) rfl ?_
  refine kx_st 5 (pc' := 8) (L' := [some (.int 2), some (.int 3), some (.int 0), some (.int 1), some (.int 11)]) (st' := [.ref 1003, .int 1]) (h' := kv_wd g w) rfl ?_
  refine kx_aE (n := 28) rfl hE3 (by decide) ?_
  refine kx_st 1 (pc' := 12) (L' := [some (.int 2), some (.int 3), some (.int 0), some (.int 1), some (.int 11)]) (st' := []) (h' := kv_wd g w) rfl ?_
  refine kx_st 1 (pc' := 13) (L' := [some (.int 2), some (.int 3), some (.int 0), some (.int 1), some (.int 11)]) (st' := [.int 0]) (h' := kv_wd g w) rfl ?_
  refine kx_st 1 (pc' := 16) (L' := [some (.int 2), some (.int 3), some (.int 0), some (.int 1), some (.int 11)]) (st' := []) (h' := kv_wd g w) rfl ?_
  refine kx_st 7 (pc' := 25) (L' := [some (.int 2), some (.int 3), some (.int 0), some (.int 1), some (.int 3)]) (st' := [.int 3]) (h' := kv_wd g w) rfl ?_
  refine kx_st 1 (pc' := 28) (L' := [some (.int 2), some (.int 3), some (.int 0), some (.int 1), some (.int 3)]) (st' := []) (h' := kv_wd g w) rfl ?_
  refine kx_st 2 (pc' := 33) (L' := [some (.int 2), some (.int 3), some (.int 0), some (.int 1), some (.int 3)]) (st' := [.ref 1003, .int 3]) (h' := kv_wd g w) rfl ?_
  refine kx_aE (n := 28) rfl hE3 (by decide) ?_
  refine kx_st 1 (pc' := 37) (L' := [some (.int 2), some (.int 3), some (.int 0), some (.int 1), some (.int 3)]) (st' := []) (h' := kv_wd g w) rfl ?_
  refine kx_st 2 (pc' := 42) (L' := [some (.int 2), some (.int 3), some (.int 0), some (.int 1), some (.int 3)]) (st' := [.int 3, .ref 1003]) (h' := kv_wd g w) rfl ?_
  refine kx_iE (k := 3) (f := kv_BO) rfl hE3 (by decide) rfl (by decide) (by omega) ?_
  refine kx_st 0 (pc' := 43) (L' := [some (.int 2), some (.int 3), some (.int 0), some (.int 1), some (.int 3)]) (st' := [.int 13]) (h' := kv_wd g w) rfl ?_
  refine kx_st 1 (pc' := 46) (L' := [some (.int 2), some (.int 3), some (.int 0), some (.int 1), some (.int 3)]) (st' := []) (h' := kv_wd g w) rfl ?_
  refine kx_st 2 (pc' := 51) (L' := [some (.int 2), some (.int 3), some (.int 0), some (.int 1), some (.int 3)]) (st' := [.int 3, .ref 1003]) (h' := kv_wd g w) rfl ?_
  refine kx_iE (k := 3) (f := kv_BO) rfl hE3 (by decide) rfl (by decide) (by omega) ?_
  refine kx_st 0 (pc' := 52) (L' := [some (.int 2), some (.int 3), some (.int 0), some (.int 1), some (.int 3)]) (st' := [.int 13]) (h' := kv_wd g w) rfl ?_
  refine kx_ret (v := some (.int 13)) rfl ?_
  exact ⟨rfl, rfl⟩
set_option maxRecDepth 100000 in
theorem ev_bodyOf_3_0 {E : kv_V} {d : Nat} {g : kv_S} {w : kv_W} (hE1 : E 1001 = some (0, 7, kv_KA)) (hE3 : E 1003 = some (0, 28, kv_BO)) : kv_ev E (d + 2) 75 [.int 3, .int 0] (kv_wd g w) (some (.int 10)) (kv_wd g w) := by
  refine kx_ev (d := d + 1) (by decide) (Nat.le_of_ble_eq_true rfl) ?_
  refine kx_st 0 (pc' := 0) (L' := [some (.int 3), some (.int 0), none, none, none]) (st' := []) (h' := kv_wd g w) rfl ?_
  refine kx_st 6 (pc' := 8) (L' := [some (.int 3), some (.int 0), some (.int 3), some (.int 0), none]) (st' := [.ref 1003, .int 0]) (h' := kv_wd g w) rfl ?_
  refine kx_aE (n := 28) rfl hE3 (by decide) ?_
  refine kx_st 1 (pc' := 12) (L' := [some (.int 3), some (.int 0), some (.int 3), some (.int 0), none]) (st' := []) (h' := kv_wd g w) rfl ?_
  refine kx_st 1 (pc' := 13) (L' := [some (.int 3), some (.int 0), some (.int 3), some (.int 0), none]) (st' := [.int 3]) (h' := kv_wd g w) rfl ?_
  refine kx_st 1 (pc' := 16) (L' := [some (.int 3), some (.int 0), some (.int 3), some (.int 0), none]) (st' := []) (h' := kv_wd g w) rfl ?_
  refine kx_st 7 (pc' := 25) (L' := [some (.int 3), some (.int 0), some (.int 3), some (.int 0), some (.int 12)]) (st' := [.int 12]) (h' := kv_wd g w) rfl ?_
  refine kx_st 1 (pc' := 28) (L' := [some (.int 3), some (.int 0), some (.int 3), some (.int 0), some (.int 12)]) (st' := []) (h' := kv_wd g w) rfl ?_
  refine kx_st 2 (pc' := 33) (L' := [some (.int 3), some (.int 0), some (.int 3), some (.int 0), some (.int 12)]) (st' := [.ref 1003, .int 12]) (h' := kv_wd g w) rfl ?_
  refine kx_aE (n := 28) rfl hE3 (by decide) ?_
  refine kx_st 1 (pc' := 37) (L' := [some (.int 3), some (.int 0), some (.int 3), some (.int 0), some (.int 12)]) (st' := []) (h' := kv_wd g w) rfl ?_
  refine kx_st 2 (pc' := 42) (L' := [some (.int 3), some (.int 0), some (.int 3), some (.int 0), some (.int 12)]) (st' := [.int 12, .ref 1003]) (h' := kv_wd g w) rfl ?_
  refine kx_iE (k := 12) (f := kv_BO) rfl hE3 (by decide) rfl (by decide) (by omega) ?_
  refine kx_st 0 (pc' := 43) (L' := [some (.int 3), some (.int 0), some (.int 3), some (.int 0), some (.int 12)]) (st' := [.int 0]) (h' := kv_wd g w) rfl ?_
  refine kx_st 1 (pc' := 53) (L' := [some (.int 3), some (.int 0), some (.int 3), some (.int 0), some (.int 12)]) (st' := []) (h' := kv_wd g w) rfl ?_
  refine kx_st 1 (pc' := 54) (L' := [some (.int 3), some (.int 0), some (.int 3), some (.int 0), some (.int 12)]) (st' := [.int 3]) (h' := kv_wd g w) rfl ?_
  refine kx_call (z := 28) (as := [.int 3]) (rest := []) (v := some (.int 0)) (h1 := kv_wd g w) rfl (ev_above_3 (d := d) hE1) ?_
  refine kx_st 0 (pc' := 57) (L' := [some (.int 3), some (.int 0), some (.int 3), some (.int 0), some (.int 12)]) (st' := [.int 0]) (h' := kv_wd g w) rfl ?_
  refine kx_st 5 (pc' := 8) (L' := [some (.int 3), some (.int 0), some (.int 0), some (.int 1), some (.int 12)]) (st' := [.ref 1003, .int 1]) (h' := kv_wd g w) rfl ?_
  refine kx_aE (n := 28) rfl hE3 (by decide) ?_
  refine kx_st 1 (pc' := 12) (L' := [some (.int 3), some (.int 0), some (.int 0), some (.int 1), some (.int 12)]) (st' := []) (h' := kv_wd g w) rfl ?_
  refine kx_st 1 (pc' := 13) (L' := [some (.int 3), some (.int 0), some (.int 0), some (.int 1), some (.int 12)]) (st' := [.int 0]) (h' := kv_wd g w) rfl ?_
  refine kx_st 1 (pc' := 16) (L' := [some (.int 3), some (.int 0), some (.int 0), some (.int 1), some (.int 12)]) (st' := []) (h' := kv_wd g w) rfl ?_
  refine kx_st 7 (pc' := 25) (L' := [some (.int 3), some (.int 0), some (.int 0), some (.int 1), some (.int 0)]) (st' := [.int 0]) (h' := kv_wd g w) rfl ?_
  refine kx_st 1 (pc' := 28) (L' := [some (.int 3), some (.int 0), some (.int 0), some (.int 1), some (.int 0)]) (st' := []) (h' := kv_wd g w) rfl ?_
  refine kx_st 2 (pc' := 33) (L' := [some (.int 3), some (.int 0), some (.int 0), some (.int 1), some (.int 0)]) (st' := [.ref 1003, .int 0]) (h' := kv_wd g w) rfl ?_
  refine kx_aE (n := 28) rfl hE3 (by decide) ?_
  refine kx_st 1 (pc' := 37) (L' := [some (.int 3), some (.int 0), some (.int 0), some (.int 1), some (.int 0)]) (st' := []) (h' := kv_wd g w) rfl ?_
  refine kx_st 2 (pc' := 42) (L' := [some (.int 3), some (.int 0), some (.int 0), some (.int 1), some (.int 0)]) (st' := [.int 0, .ref 1003]) (h' := kv_wd g w) rfl ?_
  refine kx_iE (k := 0) (f := kv_BO) rfl hE3 (by decide) rfl (by decide) (by omega) ?_
  refine kx_st 0 (pc' := 43) (L' := [some (.int 3), some (.int 0), some (.int 0), some (.int 1), some (.int 0)]) (st' := [.int 10]) (h' := kv_wd g w) rfl ?_
  refine kx_st 1 (pc' := 46) (L' := [some (.int 3), some (.int 0), some (.int 0), some (.int 1), some (.int 0)]) (st' := []) (h' := kv_wd g w) rfl ?_
  refine kx_st 2 (pc' := 51) (L' := [some (.int 3), some (.int 0), some (.int 0), some (.int 1), some (.int 0)]) (st' := [.int 0, .ref 1003]) (h' := kv_wd g w) rfl ?_
  refine kx_iE (k := 0) (f := kv_BO) rfl hE3 (by decide) rfl (by decide) (by omega) ?_
  refine kx_st 0 (pc' := 52) (L' := [some (.int 3), some (.int 0), some (.int 0), some (.int 1), some (.int 0)]) (st' := [.int 10]) (h' := kv_wd g w) rfl ?_
  refine kx_ret (v := some (.int 10)) rfl ?_
  exact ⟨rfl, rfl⟩
set_option maxRecDepth 100000 in
theorem ev_bodyOf_3_1 {E : kv_V} {d : Nat} {g : kv_S} {w : kv_W} (hE1 : E 1001 = some (0, 7, kv_KA)) (hE3 : E 1003 = some (0, 28, kv_BO)) : kv_ev E (d + 2) 75 [.int 3, .int 1] (kv_wd g w) (some (.int 11)) (kv_wd g w) := by
  refine kx_ev (d := d + 1) (by decide) (Nat.le_of_ble_eq_true rfl) ?_
  refine kx_st 0 (pc' := 0) (L' := [some (.int 3), some (.int 1), none, none, none]) (st' := []) (h' := kv_wd g w) rfl ?_
  refine kx_st 6 (pc' := 8) (L' := [some (.int 3), some (.int 1), some (.int 3), some (.int 0), none]) (st' := [.ref 1003, .int 0]) (h' := kv_wd g w) rfl ?_
  refine kx_aE (n := 28) rfl hE3 (by decide) ?_
  refine kx_st 1 (pc' := 12) (L' := [some (.int 3), some (.int 1), some (.int 3), some (.int 0), none]) (st' := []) (h' := kv_wd g w) rfl ?_
  refine kx_st 1 (pc' := 13) (L' := [some (.int 3), some (.int 1), some (.int 3), some (.int 0), none]) (st' := [.int 3]) (h' := kv_wd g w) rfl ?_
  refine kx_st 1 (pc' := 16) (L' := [some (.int 3), some (.int 1), some (.int 3), some (.int 0), none]) (st' := []) (h' := kv_wd g w) rfl ?_
  refine kx_st 7 (pc' := 25) (L' := [some (.int 3), some (.int 1), some (.int 3), some (.int 0), some (.int 13)]) (st' := [.int 13]) (h' := kv_wd g w) rfl ?_
  refine kx_st 1 (pc' := 28) (L' := [some (.int 3), some (.int 1), some (.int 3), some (.int 0), some (.int 13)]) (st' := []) (h' := kv_wd g w) rfl ?_
  refine kx_st 2 (pc' := 33) (L' := [some (.int 3), some (.int 1), some (.int 3), some (.int 0), some (.int 13)]) (st' := [.ref 1003, .int 13]) (h' := kv_wd g w) rfl ?_
  refine kx_aE (n := 28) rfl hE3 (by decide) ?_
  refine kx_st 1 (pc' := 37) (L' := [some (.int 3), some (.int 1), some (.int 3), some (.int 0), some (.int 13)]) (st' := []) (h' := kv_wd g w) rfl ?_
  refine kx_st 2 (pc' := 42) (L' := [some (.int 3), some (.int 1), some (.int 3), some (.int 0), some (.int 13)]) (st' := [.int 13, .ref 1003]) (h' := kv_wd g w) rfl ?_
  refine kx_iE (k := 13) (f := kv_BO) rfl hE3 (by decide) rfl (by decide) (by omega) ?_
  refine kx_st 0 (pc' := 43) (L' := [some (.int 3), some (.int 1), some (.int 3), some (.int 0), some (.int 13)]) (st' := [.int 0]) (h' := kv_wd g w) rfl ?_
  refine kx_st 1 (pc' := 53) (L' := [some (.int 3), some (.int 1), some (.int 3), some (.int 0), some (.int 13)]) (st' := []) (h' := kv_wd g w) rfl ?_
  refine kx_st 1 (pc' := 54) (L' := [some (.int 3), some (.int 1), some (.int 3), some (.int 0), some (.int 13)]) (st' := [.int 3]) (h' := kv_wd g w) rfl ?_
  refine kx_call (z := 28) (as := [.int 3]) (rest := []) (v := some (.int 0)) (h1 := kv_wd g w) rfl (ev_above_3 (d := d) hE1) ?_
  refine kx_st 0 (pc' := 57) (L' := [some (.int 3), some (.int 1), some (.int 3), some (.int 0), some (.int 13)]) (st' := [.int 0]) (h' := kv_wd g w) rfl ?_
  refine kx_st 5 (pc' := 8) (L' := [some (.int 3), some (.int 1), some (.int 0), some (.int 1), some (.int 13)]) (st' := [.ref 1003, .int 1]) (h' := kv_wd g w) rfl ?_
  refine kx_aE (n := 28) rfl hE3 (by decide) ?_
  refine kx_st 1 (pc' := 12) (L' := [some (.int 3), some (.int 1), some (.int 0), some (.int 1), some (.int 13)]) (st' := []) (h' := kv_wd g w) rfl ?_
  refine kx_st 1 (pc' := 13) (L' := [some (.int 3), some (.int 1), some (.int 0), some (.int 1), some (.int 13)]) (st' := [.int 0]) (h' := kv_wd g w) rfl ?_
  refine kx_st 1 (pc' := 16) (L' := [some (.int 3), some (.int 1), some (.int 0), some (.int 1), some (.int 13)]) (st' := []) (h' := kv_wd g w) rfl ?_
  refine kx_st 7 (pc' := 25) (L' := [some (.int 3), some (.int 1), some (.int 0), some (.int 1), some (.int 1)]) (st' := [.int 1]) (h' := kv_wd g w) rfl ?_
  refine kx_st 1 (pc' := 28) (L' := [some (.int 3), some (.int 1), some (.int 0), some (.int 1), some (.int 1)]) (st' := []) (h' := kv_wd g w) rfl ?_
  refine kx_st 2 (pc' := 33) (L' := [some (.int 3), some (.int 1), some (.int 0), some (.int 1), some (.int 1)]) (st' := [.ref 1003, .int 1]) (h' := kv_wd g w) rfl ?_
  refine kx_aE (n := 28) rfl hE3 (by decide) ?_
  refine kx_st 1 (pc' := 37) (L' := [some (.int 3), some (.int 1), some (.int 0), some (.int 1), some (.int 1)]) (st' := []) (h' := kv_wd g w) rfl ?_
  refine kx_st 2 (pc' := 42) (L' := [some (.int 3), some (.int 1), some (.int 0), some (.int 1), some (.int 1)]) (st' := [.int 1, .ref 1003]) (h' := kv_wd g w) rfl ?_
  refine kx_iE (k := 1) (f := kv_BO) rfl hE3 (by decide) rfl (by decide) (by omega) ?_
  refine kx_st 0 (pc' := 43) (L' := [some (.int 3), some (.int 1), some (.int 0), some (.int 1), some (.int 1)]) (st' := [.int 11]) (h' := kv_wd g w) rfl ?_
  refine kx_st 1 (pc' := 46) (L' := [some (.int 3), some (.int 1), some (.int 0), some (.int 1), some (.int 1)]) (st' := []) (h' := kv_wd g w) rfl ?_
  refine kx_st 2 (pc' := 51) (L' := [some (.int 3), some (.int 1), some (.int 0), some (.int 1), some (.int 1)]) (st' := [.int 1, .ref 1003]) (h' := kv_wd g w) rfl ?_
  refine kx_iE (k := 1) (f := kv_BO) rfl hE3 (by decide) rfl (by decide) (by omega) ?_
  refine kx_st 0 (pc' := 52) (L' := [some (.int 3), some (.int 1), some (.int 0), some (.int 1), some (.int 1)]) (st' := [.int 11]) (h' := kv_wd g w) rfl ?_
  refine kx_ret (v := some (.int 11)) rfl ?_
  exact ⟨rfl, rfl⟩
set_option maxRecDepth 100000 in
theorem ev_bodyOf_3_2 {E : kv_V} {d : Nat} {g : kv_S} {w : kv_W} (hE1 : E 1001 = some (0, 7, kv_KA)) (hE3 : E 1003 = some (0, 28, kv_BO)) : kv_ev E (d + 2) 75 [.int 3, .int 2] (kv_wd g w) (some (.int 40)) (kv_wd g w) := by
  refine kx_ev (d := d + 1) (by decide) (Nat.le_of_ble_eq_true rfl) ?_
  refine kx_st 0 (pc' := 0) (L' := [some (.int 3), some (.int 2), none, none, none]) (st' := []) (h' := kv_wd g w) rfl ?_
  refine kx_st 6 (pc' := 8) (L' := [some (.int 3), some (.int 2), some (.int 3), some (.int 0), none]) (st' := [.ref 1003, .int 0]) (h' := kv_wd g w) rfl ?_
  refine kx_aE (n := 28) rfl hE3 (by decide) ?_
  refine kx_st 1 (pc' := 12) (L' := [some (.int 3), some (.int 2), some (.int 3), some (.int 0), none]) (st' := []) (h' := kv_wd g w) rfl ?_
  refine kx_st 1 (pc' := 13) (L' := [some (.int 3), some (.int 2), some (.int 3), some (.int 0), none]) (st' := [.int 3]) (h' := kv_wd g w) rfl ?_
  refine kx_st 1 (pc' := 16) (L' := [some (.int 3), some (.int 2), some (.int 3), some (.int 0), none]) (st' := []) (h' := kv_wd g w) rfl ?_
  refine kx_st 7 (pc' := 25) (L' := [some (.int 3), some (.int 2), some (.int 3), some (.int 0), some (.int 14)]) (st' := [.int 14]) (h' := kv_wd g w) rfl ?_
  refine kx_st 1 (pc' := 28) (L' := [some (.int 3), some (.int 2), some (.int 3), some (.int 0), some (.int 14)]) (st' := []) (h' := kv_wd g w) rfl ?_
  refine kx_st 2 (pc' := 33) (L' := [some (.int 3), some (.int 2), some (.int 3), some (.int 0), some (.int 14)]) (st' := [.ref 1003, .int 14]) (h' := kv_wd g w) rfl ?_
  refine kx_aE (n := 28) rfl hE3 (by decide) ?_
  refine kx_st 1 (pc' := 37) (L' := [some (.int 3), some (.int 2), some (.int 3), some (.int 0), some (.int 14)]) (st' := []) (h' := kv_wd g w) rfl ?_
  refine kx_st 2 (pc' := 42) (L' := [some (.int 3), some (.int 2), some (.int 3), some (.int 0), some (.int 14)]) (st' := [.int 14, .ref 1003]) (h' := kv_wd g w) rfl ?_
  refine kx_iE (k := 14) (f := kv_BO) rfl hE3 (by decide) rfl (by decide) (by omega) ?_
  refine kx_st 0 (pc' := 43) (L' := [some (.int 3), some (.int 2), some (.int 3), some (.int 0), some (.int 14)]) (st' := [.int 40]) (h' := kv_wd g w) rfl ?_
  refine kx_st 1 (pc' := 46) (L' := [some (.int 3), some (.int 2), some (.int 3), some (.int 0), some (.int 14)]) (st' := []) (h' := kv_wd g w) rfl ?_
  refine kx_st 2 (pc' := 51) (L' := [some (.int 3), some (.int 2), some (.int 3), some (.int 0), some (.int 14)]) (st' := [.int 14, .ref 1003]) (h' := kv_wd g w) rfl ?_
  refine kx_iE (k := 14) (f := kv_BO) rfl hE3 (by decide) rfl (by decide) (by omega) ?_
  refine kx_st 0 (pc' := 52) (L' := [some (.int 3), some (.int 2), some (.int 3), some (.int 0), some (.int 14)]) (st' := [.int 40]) (h' := kv_wd g w) rfl ?_
  refine kx_ret (v := some (.int 40)) rfl ?_
  exact ⟨rfl, rfl⟩
set_option maxRecDepth 100000 in
theorem ev_bodyOf_3_3 {E : kv_V} {d : Nat} {g : kv_S} {w : kv_W} (hE1 : E 1001 = some (0, 7, kv_KA)) (hE3 : E 1003 = some (0, 28, kv_BO)) : kv_ev E (d + 2) 75 [.int 3, .int 3] (kv_wd g w) (some (.int 13)) (kv_wd g w) := by
  refine kx_ev (d := d + 1) (by decide) (Nat.le_of_ble_eq_true rfl) ?_
  refine kx_st 0 (pc' := 0) (L' := [some (.int 3), some (.int 3), none, none, none]) (st' := []) (h' := kv_wd g w) rfl ?_
  refine kx_st 6 (pc' := 8) (L' := [some (.int 3), some (.int 3), some (.int 3), some (.int 0), none]) (st' := [.ref 1003, .int 0]) (h' := kv_wd g w) rfl ?_
  refine kx_aE (n := 28) rfl hE3 (by decide) ?_
  refine kx_st 1 (pc' := 12) (L' := [some (.int 3), some (.int 3), some (.int 3), some (.int 0), none]) (st' := []) (h' := kv_wd g w) rfl ?_
  refine kx_st 1 (pc' := 13) (L' := [some (.int 3), some (.int 3), some (.int 3), some (.int 0), none]) (st' := [.int 3]) (h' := kv_wd g w) rfl ?_
  refine kx_st 1 (pc' := 16) (L' := [some (.int 3), some (.int 3), some (.int 3), some (.int 0), none]) (st' := []) (h' := kv_wd g w) rfl ?_
  refine kx_st 7 (pc' := 25) (L' := [some (.int 3), some (.int 3), some (.int 3), some (.int 0), some (.int 15)]) (st' := [.int 15]) (h' := kv_wd g w) rfl ?_
  refine kx_st 1 (pc' := 28) (L' := [some (.int 3), some (.int 3), some (.int 3), some (.int 0), some (.int 15)]) (st' := []) (h' := kv_wd g w) rfl ?_
  refine kx_st 2 (pc' := 33) (L' := [some (.int 3), some (.int 3), some (.int 3), some (.int 0), some (.int 15)]) (st' := [.ref 1003, .int 15]) (h' := kv_wd g w) rfl ?_
  refine kx_aE (n := 28) rfl hE3 (by decide) ?_
  refine kx_st 1 (pc' := 37) (L' := [some (.int 3), some (.int 3), some (.int 3), some (.int 0), some (.int 15)]) (st' := []) (h' := kv_wd g w) rfl ?_
  refine kx_st 2 (pc' := 42) (L' := [some (.int 3), some (.int 3), some (.int 3), some (.int 0), some (.int 15)]) (st' := [.int 15, .ref 1003]) (h' := kv_wd g w) rfl ?_
  refine kx_iE (k := 15) (f := kv_BO) rfl hE3 (by decide) rfl (by decide) (by omega) ?_
  refine kx_st 0 (pc' := 43) (L' := [some (.int 3), some (.int 3), some (.int 3), some (.int 0), some (.int 15)]) (st' := [.int 0]) (h' := kv_wd g w) rfl ?_
  refine kx_st 1 (pc' := 53) (L' := [some (.int 3), some (.int 3), some (.int 3), some (.int 0), some (.int 15)]) (st' := []) (h' := kv_wd g w) rfl ?_
  refine kx_st 1 (pc' := 54) (L' := [some (.int 3), some (.int 3), some (.int 3), some (.int 0), some (.int 15)]) (st' := [.int 3]) (h' := kv_wd g w) rfl ?_
  refine kx_call (z := 28) (as := [.int 3]) (rest := []) (v := some (.int 0)) (h1 := kv_wd g w) rfl (ev_above_3 (d := d) hE1) ?_
  refine kx_st 0 (pc' := 57) (L' := [some (.int 3), some (.int 3), some (.int 3), some (.int 0), some (.int 15)]) (st' := [.int 0]) (h' := kv_wd g w) rfl ?_
  refine kx_st 5 (pc' := 8) (L' := [some (.int 3), some (.int 3), some (.int 0), some (.int 1), some (.int 15)]) (st' := [.ref 1003, .int 1]) (h' := kv_wd g w) rfl ?_
  refine kx_aE (n := 28) rfl hE3 (by decide) ?_
  refine kx_st 1 (pc' := 12) (L' := [some (.int 3), some (.int 3), some (.int 0), some (.int 1), some (.int 15)]) (st' := []) (h' := kv_wd g w) rfl ?_
  refine kx_st 1 (pc' := 13) (L' := [some (.int 3), some (.int 3), some (.int 0), some (.int 1), some (.int 15)]) (st' := [.int 0]) (h' := kv_wd g w) rfl ?_
  refine kx_st 1 (pc' := 16) (L' := [some (.int 3), some (.int 3), some (.int 0), some (.int 1), some (.int 15)]) (st' := []) (h' := kv_wd g w) rfl ?_
  refine kx_st 7 (pc' := 25) (L' := [some (.int 3), some (.int 3), some (.int 0), some (.int 1), some (.int 3)]) (st' := [.int 3]) (h' := kv_wd g w) rfl ?_
  refine kx_st 1 (pc' := 28) (L' := [some (.int 3), some (.int 3), some (.int 0), some (.int 1), some (.int 3)]) (st' := []) (h' := kv_wd g w) rfl ?_
  refine kx_st 2 (pc' := 33) (L' := [some (.int 3), some (.int 3), some (.int 0), some (.int 1), some (.int 3)]) (st' := [.ref 1003, .int 3]) (h' := kv_wd g w) rfl ?_
  refine kx_aE (n := 28) rfl hE3 (by decide) ?_
  refine kx_st 1 (pc' := 37) (L' := [some (.int 3), some (.int 3), some (.int 0), some (.int 1), some (.int 3)]) (st' := []) (h' := kv_wd g w) rfl ?_
  refine kx_st 2 (pc' := 42) (L' := [some (.int 3), some (.int 3), some (.int 0), some (.int 1), some (.int 3)]) (st' := [.int 3, .ref 1003]) (h' := kv_wd g w) rfl ?_
  refine kx_iE (k := 3) (f := kv_BO) rfl hE3 (by decide) rfl (by decide) (by omega) ?_
  refine kx_st 0 (pc' := 43) (L' := [some (.int 3), some (.int 3), some (.int 0), some (.int 1), some (.int 3)]) (st' := [.int 13]) (h' := kv_wd g w) rfl ?_
  refine kx_st 1 (pc' := 46) (L' := [some (.int 3), some (.int 3), some (.int 0), some (.int 1), some (.int 3)]) (st' := []) (h' := kv_wd g w) rfl ?_
  refine kx_st 2 (pc' := 51) (L' := [some (.int 3), some (.int 3), some (.int 0), some (.int 1), some (.int 3)]) (st' := [.int 3, .ref 1003]) (h' := kv_wd g w) rfl ?_
  refine kx_iE (k := 3) (f := kv_BO) rfl hE3 (by decide) rfl (by decide) (by omega) ?_
  refine kx_st 0 (pc' := 52) (L' := [some (.int 3), some (.int 3), some (.int 0), some (.int 1), some (.int 3)]) (st' := [.int 13]) (h' := kv_wd g w) rfl ?_
  refine kx_ret (v := some (.int 13)) rfl ?_
  exact ⟨rfl, rfl⟩
set_option maxRecDepth 100000 in
theorem ev_bodyOf_4_0 {E : kv_V} {d : Nat} {g : kv_S} {w : kv_W} (hE1 : E 1001 = some (0, 7, kv_KA)) (hE3 : E 1003 = some (0, 28, kv_BO)) : kv_ev E (d + 2) 75 [.int 4, .int 0] (kv_wd g w) (some (.int 20)) (kv_wd g w) := by
  refine kx_ev (d := d + 1) (by decide) (Nat.le_of_ble_eq_true rfl) ?_
  refine kx_st 0 (pc' := 0) (L' := [some (.int 4), some (.int 0), none, none, none]) (st' := []) (h' := kv_wd g w) rfl ?_
  refine kx_st 6 (pc' := 8) (L' := [some (.int 4), some (.int 0), some (.int 4), some (.int 0), none]) (st' := [.ref 1003, .int 0]) (h' := kv_wd g w) rfl ?_
  refine kx_aE (n := 28) rfl hE3 (by decide) ?_
  refine kx_st 1 (pc' := 12) (L' := [some (.int 4), some (.int 0), some (.int 4), some (.int 0), none]) (st' := []) (h' := kv_wd g w) rfl ?_
  refine kx_st 1 (pc' := 13) (L' := [some (.int 4), some (.int 0), some (.int 4), some (.int 0), none]) (st' := [.int 4]) (h' := kv_wd g w) rfl ?_
  refine kx_st 1 (pc' := 16) (L' := [some (.int 4), some (.int 0), some (.int 4), some (.int 0), none]) (st' := []) (h' := kv_wd g w) rfl ?_
  refine kx_st 7 (pc' := 25) (L' := [some (.int 4), some (.int 0), some (.int 4), some (.int 0), some (.int 16)]) (st' := [.int 16]) (h' := kv_wd g w) rfl ?_
  refine kx_st 1 (pc' := 28) (L' := [some (.int 4), some (.int 0), some (.int 4), some (.int 0), some (.int 16)]) (st' := []) (h' := kv_wd g w) rfl ?_
  refine kx_st 2 (pc' := 33) (L' := [some (.int 4), some (.int 0), some (.int 4), some (.int 0), some (.int 16)]) (st' := [.ref 1003, .int 16]) (h' := kv_wd g w) rfl ?_
  refine kx_aE (n := 28) rfl hE3 (by decide) ?_
  refine kx_st 1 (pc' := 37) (L' := [some (.int 4), some (.int 0), some (.int 4), some (.int 0), some (.int 16)]) (st' := []) (h' := kv_wd g w) rfl ?_
  refine kx_st 2 (pc' := 42) (L' := [some (.int 4), some (.int 0), some (.int 4), some (.int 0), some (.int 16)]) (st' := [.int 16, .ref 1003]) (h' := kv_wd g w) rfl ?_
  refine kx_iE (k := 16) (f := kv_BO) rfl hE3 (by decide) rfl (by decide) (by omega) ?_
  refine kx_st 0 (pc' := 43) (L' := [some (.int 4), some (.int 0), some (.int 4), some (.int 0), some (.int 16)]) (st' := [.int 0]) (h' := kv_wd g w) rfl ?_
  refine kx_st 1 (pc' := 53) (L' := [some (.int 4), some (.int 0), some (.int 4), some (.int 0), some (.int 16)]) (st' := []) (h' := kv_wd g w) rfl ?_
  refine kx_st 1 (pc' := 54) (L' := [some (.int 4), some (.int 0), some (.int 4), some (.int 0), some (.int 16)]) (st' := [.int 4]) (h' := kv_wd g w) rfl ?_
  refine kx_call (z := 28) (as := [.int 4]) (rest := []) (v := some (.int 1)) (h1 := kv_wd g w) rfl (ev_above_4 (d := d) hE1) ?_
  refine kx_st 0 (pc' := 57) (L' := [some (.int 4), some (.int 0), some (.int 4), some (.int 0), some (.int 16)]) (st' := [.int 1]) (h' := kv_wd g w) rfl ?_
  refine kx_st 5 (pc' := 8) (L' := [some (.int 4), some (.int 0), some (.int 1), some (.int 1), some (.int 16)]) (st' := [.ref 1003, .int 1]) (h' := kv_wd g w) rfl ?_
  refine kx_aE (n := 28) rfl hE3 (by decide) ?_
  refine kx_st 1 (pc' := 12) (L' := [some (.int 4), some (.int 0), some (.int 1), some (.int 1), some (.int 16)]) (st' := []) (h' := kv_wd g w) rfl ?_
  refine kx_st 1 (pc' := 13) (L' := [some (.int 4), some (.int 0), some (.int 1), some (.int 1), some (.int 16)]) (st' := [.int 1]) (h' := kv_wd g w) rfl ?_
  refine kx_st 1 (pc' := 16) (L' := [some (.int 4), some (.int 0), some (.int 1), some (.int 1), some (.int 16)]) (st' := []) (h' := kv_wd g w) rfl ?_
  refine kx_st 7 (pc' := 25) (L' := [some (.int 4), some (.int 0), some (.int 1), some (.int 1), some (.int 4)]) (st' := [.int 4]) (h' := kv_wd g w) rfl ?_
  refine kx_st 1 (pc' := 28) (L' := [some (.int 4), some (.int 0), some (.int 1), some (.int 1), some (.int 4)]) (st' := []) (h' := kv_wd g w) rfl ?_
  refine kx_st 2 (pc' := 33) (L' := [some (.int 4), some (.int 0), some (.int 1), some (.int 1), some (.int 4)]) (st' := [.ref 1003, .int 4]) (h' := kv_wd g w) rfl ?_
  refine kx_aE (n := 28) rfl hE3 (by decide) ?_
  refine kx_st 1 (pc' := 37) (L' := [some (.int 4), some (.int 0), some (.int 1), some (.int 1), some (.int 4)]) (st' := []) (h' := kv_wd g w) rfl ?_
  refine kx_st 2 (pc' := 42) (L' := [some (.int 4), some (.int 0), some (.int 1), some (.int 1), some (.int 4)]) (st' := [.int 4, .ref 1003]) (h' := kv_wd g w) rfl ?_
  refine kx_iE (k := 4) (f := kv_BO) rfl hE3 (by decide) rfl (by decide) (by omega) ?_
  refine kx_st 0 (pc' := 43) (L' := [some (.int 4), some (.int 0), some (.int 1), some (.int 1), some (.int 4)]) (st' := [.int 20]) (h' := kv_wd g w) rfl ?_
  refine kx_st 1 (pc' := 46) (L' := [some (.int 4), some (.int 0), some (.int 1), some (.int 1), some (.int 4)]) (st' := []) (h' := kv_wd g w) rfl ?_
  refine kx_st 2 (pc' := 51) (L' := [some (.int 4), some (.int 0), some (.int 1), some (.int 1), some (.int 4)]) (st' := [.int 4, .ref 1003]) (h' := kv_wd g w) rfl ?_
  refine kx_iE (k := 4) (f := kv_BO) rfl hE3 (by decide) rfl (by decide) (by omega) ?_
  refine kx_st 0 (pc' := 52) (L' := [some (.int 4), some (.int 0), some (.int 1), some (.int 1), some (.int 4)]) (st' := [.int 20]) (h' := kv_wd g w) rfl ?_
  refine kx_ret (v := some (.int 20)) rfl ?_
  exact ⟨rfl, rfl⟩
set_option maxRecDepth 100000 in
theorem ev_bodyOf_4_1 {E : kv_V} {d : Nat} {g : kv_S} {w : kv_W} (hE1 : E 1001 = some (0, 7, kv_KA)) (hE3 : E 1003 = some (0, 28, kv_BO)) : kv_ev E (d + 2) 75 [.int 4, .int 1] (kv_wd g w) (some (.int 11)) (kv_wd g w) := by
  refine kx_ev (d := d + 1) (by decide) (Nat.le_of_ble_eq_true rfl) ?_
  refine kx_st 0 (pc' := 0) (L' := [some (.int 4), some (.int 1), none, none, none]) (st' := []) (h' := kv_wd g w) rfl ?_
  refine kx_st 6 (pc' := 8) (L' := [some (.int 4), some (.int 1), some (.int 4), some (.int 0), none]) (st' := [.ref 1003, .int 0]) (h' := kv_wd g w) rfl ?_
  refine kx_aE (n := 28) rfl hE3 (by decide) ?_
  refine kx_st 1 (pc' := 12) (L' := [some (.int 4), some (.int 1), some (.int 4), some (.int 0), none]) (st' := []) (h' := kv_wd g w) rfl ?_
  refine kx_st 1 (pc' := 13) (L' := [some (.int 4), some (.int 1), some (.int 4), some (.int 0), none]) (st' := [.int 4]) (h' := kv_wd g w) rfl ?_
  refine kx_st 1 (pc' := 16) (L' := [some (.int 4), some (.int 1), some (.int 4), some (.int 0), none]) (st' := []) (h' := kv_wd g w) rfl ?_
  refine kx_st 7 (pc' := 25) (L' := [some (.int 4), some (.int 1), some (.int 4), some (.int 0), some (.int 17)]) (st' := [.int 17]) (h' := kv_wd g w) rfl ?_
  refine kx_st 1 (pc' := 28) (L' := [some (.int 4), some (.int 1), some (.int 4), some (.int 0), some (.int 17)]) (st' := []) (h' := kv_wd g w) rfl ?_
  refine kx_st 2 (pc' := 33) (L' := [some (.int 4), some (.int 1), some (.int 4), some (.int 0), some (.int 17)]) (st' := [.ref 1003, .int 17]) (h' := kv_wd g w) rfl ?_
  refine kx_aE (n := 28) rfl hE3 (by decide) ?_
  refine kx_st 1 (pc' := 37) (L' := [some (.int 4), some (.int 1), some (.int 4), some (.int 0), some (.int 17)]) (st' := []) (h' := kv_wd g w) rfl ?_
  refine kx_st 2 (pc' := 42) (L' := [some (.int 4), some (.int 1), some (.int 4), some (.int 0), some (.int 17)]) (st' := [.int 17, .ref 1003]) (h' := kv_wd g w) rfl ?_
  refine kx_iE (k := 17) (f := kv_BO) rfl hE3 (by decide) rfl (by decide) (by omega) ?_
  refine kx_st 0 (pc' := 43) (L' := [some (.int 4), some (.int 1), some (.int 4), some (.int 0), some (.int 17)]) (st' := [.int 0]) (h' := kv_wd g w) rfl ?_
  refine kx_st 1 (pc' := 53) (L' := [some (.int 4), some (.int 1), some (.int 4), some (.int 0), some (.int 17)]) (st' := []) (h' := kv_wd g w) rfl ?_
  refine kx_st 1 (pc' := 54) (L' := [some (.int 4), some (.int 1), some (.int 4), some (.int 0), some (.int 17)]) (st' := [.int 4]) (h' := kv_wd g w) rfl ?_
  refine kx_call (z := 28) (as := [.int 4]) (rest := []) (v := some (.int 1)) (h1 := kv_wd g w) rfl (ev_above_4 (d := d) hE1) ?_
  refine kx_st 0 (pc' := 57) (L' := [some (.int 4), some (.int 1), some (.int 4), some (.int 0), some (.int 17)]) (st' := [.int 1]) (h' := kv_wd g w) rfl ?_
  refine kx_st 5 (pc' := 8) (L' := [some (.int 4), some (.int 1), some (.int 1), some (.int 1), some (.int 17)]) (st' := [.ref 1003, .int 1]) (h' := kv_wd g w) rfl ?_
  refine kx_aE (n := 28) rfl hE3 (by decide) ?_
  refine kx_st 1 (pc' := 12) (L' := [some (.int 4), some (.int 1), some (.int 1), some (.int 1), some (.int 17)]) (st' := []) (h' := kv_wd g w) rfl ?_
  refine kx_st 1 (pc' := 13) (L' := [some (.int 4), some (.int 1), some (.int 1), some (.int 1), some (.int 17)]) (st' := [.int 1]) (h' := kv_wd g w) rfl ?_
  refine kx_st 1 (pc' := 16) (L' := [some (.int 4), some (.int 1), some (.int 1), some (.int 1), some (.int 17)]) (st' := []) (h' := kv_wd g w) rfl ?_
  refine kx_st 7 (pc' := 25) (L' := [some (.int 4), some (.int 1), some (.int 1), some (.int 1), some (.int 5)]) (st' := [.int 5]) (h' := kv_wd g w) rfl ?_
  refine kx_st 1 (pc' := 28) (L' := [some (.int 4), some (.int 1), some (.int 1), some (.int 1), some (.int 5)]) (st' := []) (h' := kv_wd g w) rfl ?_
  refine kx_st 2 (pc' := 33) (L' := [some (.int 4), some (.int 1), some (.int 1), some (.int 1), some (.int 5)]) (st' := [.ref 1003, .int 5]) (h' := kv_wd g w) rfl ?_
  refine kx_aE (n := 28) rfl hE3 (by decide) ?_
  refine kx_st 1 (pc' := 37) (L' := [some (.int 4), some (.int 1), some (.int 1), some (.int 1), some (.int 5)]) (st' := []) (h' := kv_wd g w) rfl ?_
  refine kx_st 2 (pc' := 42) (L' := [some (.int 4), some (.int 1), some (.int 1), some (.int 1), some (.int 5)]) (st' := [.int 5, .ref 1003]) (h' := kv_wd g w) rfl ?_
  refine kx_iE (k := 5) (f := kv_BO) rfl hE3 (by decide) rfl (by decide) (by omega) ?_
  refine kx_st 0 (pc' := 43) (L' := [some (.int 4), some (.int 1), some (.int 1), some (.int 1), some (.int 5)]) (st' := [.int 0]) (h' := kv_wd g w) rfl ?_
  refine kx_st 1 (pc' := 53) (L' := [some (.int 4), some (.int 1), some (.int 1), some (.int 1), some (.int 5)]) (st' := []) (h' := kv_wd g w) rfl ?_
  refine kx_st 1 (pc' := 54) (L' := [some (.int 4), some (.int 1), some (.int 1), some (.int 1), some (.int 5)]) (st' := [.int 1]) (h' := kv_wd g w) rfl ?_
  refine kx_call (z := 28) (as := [.int 1]) (rest := []) (v := some (.int 0)) (h1 := kv_wd g w) rfl (ev_above_1 (d := d) hE1) ?_
  refine kx_st 0 (pc' := 57) (L' := [some (.int 4), some (.int 1), some (.int 1), some (.int 1), some (.int 5)]) (st' := [.int 0]) (h' := kv_wd g w) rfl ?_
  refine kx_st 5 (pc' := 8) (L' := [some (.int 4), some (.int 1), some (.int 0), some (.int 2), some (.int 5)]) (st' := [.ref 1003, .int 2]) (h' := kv_wd g w) rfl ?_
  refine kx_aE (n := 28) rfl hE3 (by decide) ?_
  refine kx_st 1 (pc' := 12) (L' := [some (.int 4), some (.int 1), some (.int 0), some (.int 2), some (.int 5)]) (st' := []) (h' := kv_wd g w) rfl ?_
  refine kx_st 1 (pc' := 13) (L' := [some (.int 4), some (.int 1), some (.int 0), some (.int 2), some (.int 5)]) (st' := [.int 0]) (h' := kv_wd g w) rfl ?_
  refine kx_st 1 (pc' := 16) (L' := [some (.int 4), some (.int 1), some (.int 0), some (.int 2), some (.int 5)]) (st' := []) (h' := kv_wd g w) rfl ?_
  refine kx_st 7 (pc' := 25) (L' := [some (.int 4), some (.int 1), some (.int 0), some (.int 2), some (.int 1)]) (st' := [.int 1]) (h' := kv_wd g w) rfl ?_
  refine kx_st 1 (pc' := 28) (L' := [some (.int 4), some (.int 1), some (.int 0), some (.int 2), some (.int 1)]) (st' := []) (h' := kv_wd g w) rfl ?_
  refine kx_st 2 (pc' := 33) (L' := [some (.int 4), some (.int 1), some (.int 0), some (.int 2), some (.int 1)]) (st' := [.ref 1003, .int 1]) (h' := kv_wd g w) rfl ?_
  refine kx_aE (n := 28) rfl hE3 (by decide) ?_
  refine kx_st 1 (pc' := 37) (L' := [some (.int 4), some (.int 1), some (.int 0), some (.int 2), some (.int 1)]) (st' := []) (h' := kv_wd g w) rfl ?_
  refine kx_st 2 (pc' := 42) (L' := [some (.int 4), some (.int 1), some (.int 0), some (.int 2), some (.int 1)]) (st' := [.int 1, .ref 1003]) (h' := kv_wd g w) rfl ?_
  refine kx_iE (k := 1) (f := kv_BO) rfl hE3 (by decide) rfl (by decide) (by omega) ?_
  refine kx_st 0 (pc' := 43) (L' := [some (.int 4), some (.int 1), some (.int 0), some (.int 2), some (.int 1)]) (st' := [.int 11]) (h' := kv_wd g w) rfl ?_
  refine kx_st 1 (pc' := 46) (L' := [some (.int 4), some (.int 1), some (.int 0), some (.int 2), some (.int 1)]) (st' := []) (h' := kv_wd g w) rfl ?_
  refine kx_st 2 (pc' := 51) (L' := [some (.int 4), some (.int 1), some (.int 0), some (.int 2), some (.int 1)]) (st' := [.int 1, .ref 1003]) (h' := kv_wd g w) rfl ?_
  refine kx_iE (k := 1) (f := kv_BO) rfl hE3 (by decide) rfl (by decide) (by omega) ?_
  refine kx_st 0 (pc' := 52) (L' := [some (.int 4), some (.int 1), some (.int 0), some (.int 2), some (.int 1)]) (st' := [.int 11]) (h' := kv_wd g w) rfl ?_
  refine kx_ret (v := some (.int 11)) rfl ?_
  exact ⟨rfl, rfl⟩
set_option maxRecDepth 100000 in
theorem ev_bodyOf_4_2 {E : kv_V} {d : Nat} {g : kv_S} {w : kv_W} (hE1 : E 1001 = some (0, 7, kv_KA)) (hE3 : E 1003 = some (0, 28, kv_BO)) : kv_ev E (d + 2) 75 [.int 4, .int 2] (kv_wd g w) (some (.int 12)) (kv_wd g w) := by
  refine kx_ev (d := d + 1) (by decide) (Nat.le_of_ble_eq_true rfl) ?_
  refine kx_st 0 (pc' := 0) (L' := [some (.int 4), some (.int 2), none, none, none]) (st' := []) (h' := kv_wd g w) rfl ?_
  refine kx_st 6 (pc' := 8) (L' := [some (.int 4), some (.int 2), some (.int 4), some (.int 0), none]) (st' := [.ref 1003, .int 0]) (h' := kv_wd g w) rfl ?_
  refine kx_aE (n := 28) rfl hE3 (by decide) ?_
  refine kx_st 1 (pc' := 12) (L' := [some (.int 4), some (.int 2), some (.int 4), some (.int 0), none]) (st' := []) (h' := kv_wd g w) rfl ?_
  refine kx_st 1 (pc' := 13) (L' := [some (.int 4), some (.int 2), some (.int 4), some (.int 0), none]) (st' := [.int 4]) (h' := kv_wd g w) rfl ?_
  refine kx_st 1 (pc' := 16) (L' := [some (.int 4), some (.int 2), some (.int 4), some (.int 0), none]) (st' := []) (h' := kv_wd g w) rfl ?_
  refine kx_st 7 (pc' := 25) (L' := [some (.int 4), some (.int 2), some (.int 4), some (.int 0), some (.int 18)]) (st' := [.int 18]) (h' := kv_wd g w) rfl ?_
  refine kx_st 1 (pc' := 28) (L' := [some (.int 4), some (.int 2), some (.int 4), some (.int 0), some (.int 18)]) (st' := []) (h' := kv_wd g w) rfl ?_
  refine kx_st 2 (pc' := 33) (L' := [some (.int 4), some (.int 2), some (.int 4), some (.int 0), some (.int 18)]) (st' := [.ref 1003, .int 18]) (h' := kv_wd g w) rfl ?_
  refine kx_aE (n := 28) rfl hE3 (by decide) ?_
  refine kx_st 1 (pc' := 37) (L' := [some (.int 4), some (.int 2), some (.int 4), some (.int 0), some (.int 18)]) (st' := []) (h' := kv_wd g w) rfl ?_
  refine kx_st 2 (pc' := 42) (L' := [some (.int 4), some (.int 2), some (.int 4), some (.int 0), some (.int 18)]) (st' := [.int 18, .ref 1003]) (h' := kv_wd g w) rfl ?_
  refine kx_iE (k := 18) (f := kv_BO) rfl hE3 (by decide) rfl (by decide) (by omega) ?_
  refine kx_st 0 (pc' := 43) (L' := [some (.int 4), some (.int 2), some (.int 4), some (.int 0), some (.int 18)]) (st' := [.int 0]) (h' := kv_wd g w) rfl ?_
  refine kx_st 1 (pc' := 53) (L' := [some (.int 4), some (.int 2), some (.int 4), some (.int 0), some (.int 18)]) (st' := []) (h' := kv_wd g w) rfl ?_
  refine kx_st 1 (pc' := 54) (L' := [some (.int 4), some (.int 2), some (.int 4), some (.int 0), some (.int 18)]) (st' := [.int 4]) (h' := kv_wd g w) rfl ?_
  refine kx_call (z := 28) (as := [.int 4]) (rest := []) (v := some (.int 1)) (h1 := kv_wd g w) rfl (ev_above_4 (d := d) hE1) ?_
  refine kx_st 0 (pc' := 57) (L' := [some (.int 4), some (.int 2), some (.int 4), some (.int 0), some (.int 18)]) (st' := [.int 1]) (h' := kv_wd g w) rfl ?_
  refine kx_st 5 (pc' := 8) (L' := [some (.int 4), some (.int 2), some (.int 1), some (.int 1), some (.int 18)]) (st' := [.ref 1003, .int 1]) (h' := kv_wd g w) rfl ?_
  refine kx_aE (n := 28) rfl hE3 (by decide) ?_
  refine kx_st 1 (pc' := 12) (L' := [some (.int 4), some (.int 2), some (.int 1), some (.int 1), some (.int 18)]) (st' := []) (h' := kv_wd g w) rfl ?_
  refine kx_st 1 (pc' := 13) (L' := [some (.int 4), some (.int 2), some (.int 1), some (.int 1), some (.int 18)]) (st' := [.int 1]) (h' := kv_wd g w) rfl ?_
  refine kx_st 1 (pc' := 16) (L' := [some (.int 4), some (.int 2), some (.int 1), some (.int 1), some (.int 18)]) (st' := []) (h' := kv_wd g w) rfl ?_
  refine kx_st 7 (pc' := 25) (L' := [some (.int 4), some (.int 2), some (.int 1), some (.int 1), some (.int 6)]) (st' := [.int 6]) (h' := kv_wd g w) rfl ?_
  refine kx_st 1 (pc' := 28) (L' := [some (.int 4), some (.int 2), some (.int 1), some (.int 1), some (.int 6)]) (st' := []) (h' := kv_wd g w) rfl ?_
  refine kx_st 2 (pc' := 33) (L' := [some (.int 4), some (.int 2), some (.int 1), some (.int 1), some (.int 6)]) (st' := [.ref 1003, .int 6]) (h' := kv_wd g w) rfl ?_
  refine kx_aE (n := 28) rfl hE3 (by decide) ?_
  refine kx_st 1 (pc' := 37) (L' := [some (.int 4), some (.int 2), some (.int 1), some (.int 1), some (.int 6)]) (st' := []) (h' := kv_wd g w) rfl ?_
  refine kx_st 2 (pc' := 42) (L' := [some (.int 4), some (.int 2), some (.int 1), some (.int 1), some (.int 6)]) (st' := [.int 6, .ref 1003]) (h' := kv_wd g w) rfl ?_
  refine kx_iE (k := 6) (f := kv_BO) rfl hE3 (by decide) rfl (by decide) (by omega) ?_
  refine kx_st 0 (pc' := 43) (L' := [some (.int 4), some (.int 2), some (.int 1), some (.int 1), some (.int 6)]) (st' := [.int 0]) (h' := kv_wd g w) rfl ?_
  refine kx_st 1 (pc' := 53) (L' := [some (.int 4), some (.int 2), some (.int 1), some (.int 1), some (.int 6)]) (st' := []) (h' := kv_wd g w) rfl ?_
  refine kx_st 1 (pc' := 54) (L' := [some (.int 4), some (.int 2), some (.int 1), some (.int 1), some (.int 6)]) (st' := [.int 1]) (h' := kv_wd g w) rfl ?_
  refine kx_call (z := 28) (as := [.int 1]) (rest := []) (v := some (.int 0)) (h1 := kv_wd g w) rfl (ev_above_1 (d := d) hE1) ?_
  refine kx_st 0 (pc' := 57) (L' := [some (.int 4), some (.int 2), some (.int 1), some (.int 1), some (.int 6)]) (st' := [.int 0]) (h' := kv_wd g w) rfl ?_
  refine kx_st 5 (pc' := 8) (L' := [some (.int 4), some (.int 2), some (.int 0), some (.int 2), some (.int 6)]) (st' := [.ref 1003, .int 2]) (h' := kv_wd g w) rfl ?_
  refine kx_aE (n := 28) rfl hE3 (by decide) ?_
  refine kx_st 1 (pc' := 12) (L' := [some (.int 4), some (.int 2), some (.int 0), some (.int 2), some (.int 6)]) (st' := []) (h' := kv_wd g w) rfl ?_
  refine kx_st 1 (pc' := 13) (L' := [some (.int 4), some (.int 2), some (.int 0), some (.int 2), some (.int 6)]) (st' := [.int 0]) (h' := kv_wd g w) rfl ?_
  refine kx_st 1 (pc' := 16) (L' := [some (.int 4), some (.int 2), some (.int 0), some (.int 2), some (.int 6)]) (st' := []) (h' := kv_wd g w) rfl ?_
  refine kx_st 7 (pc' := 25) (L' := [some (.int 4), some (.int 2), some (.int 0), some (.int 2), some (.int 2)]) (st' := [.int 2]) (h' := kv_wd g w) rfl ?_
  refine kx_st 1 (pc' := 28) (L' := [some (.int 4), some (.int 2), some (.int 0), some (.int 2), some (.int 2)]) (st' := []) (h' := kv_wd g w) rfl ?_
  refine kx_st 2 (pc' := 33) (L' := [some (.int 4), some (.int 2), some (.int 0), some (.int 2), some (.int 2)]) (st' := [.ref 1003, .int 2]) (h' := kv_wd g w) rfl ?_
  refine kx_aE (n := 28) rfl hE3 (by decide) ?_
  refine kx_st 1 (pc' := 37) (L' := [some (.int 4), some (.int 2), some (.int 0), some (.int 2), some (.int 2)]) (st' := []) (h' := kv_wd g w) rfl ?_
  refine kx_st 2 (pc' := 42) (L' := [some (.int 4), some (.int 2), some (.int 0), some (.int 2), some (.int 2)]) (st' := [.int 2, .ref 1003]) (h' := kv_wd g w) rfl ?_
  refine kx_iE (k := 2) (f := kv_BO) rfl hE3 (by decide) rfl (by decide) (by omega) ?_
  refine kx_st 0 (pc' := 43) (L' := [some (.int 4), some (.int 2), some (.int 0), some (.int 2), some (.int 2)]) (st' := [.int 12]) (h' := kv_wd g w) rfl ?_
  refine kx_st 1 (pc' := 46) (L' := [some (.int 4), some (.int 2), some (.int 0), some (.int 2), some (.int 2)]) (st' := []) (h' := kv_wd g w) rfl ?_
  refine kx_st 2 (pc' := 51) (L' := [some (.int 4), some (.int 2), some (.int 0), some (.int 2), some (.int 2)]) (st' := [.int 2, .ref 1003]) (h' := kv_wd g w) rfl ?_
  refine kx_iE (k := 2) (f := kv_BO) rfl hE3 (by decide) rfl (by decide) (by omega) ?_
  refine kx_st 0 (pc' := 52) (L' := [some (.int 4), some (.int 2), some (.int 0), some (.int 2), some (.int 2)]) (st' := [.int 12]) (h' := kv_wd g w) rfl ?_
  refine kx_ret (v := some (.int 12)) rfl ?_
  exact ⟨rfl, rfl⟩
set_option maxRecDepth 100000 in
theorem ev_bodyOf_4_3 {E : kv_V} {d : Nat} {g : kv_S} {w : kv_W} (hE1 : E 1001 = some (0, 7, kv_KA)) (hE3 : E 1003 = some (0, 28, kv_BO)) : kv_ev E (d + 2) 75 [.int 4, .int 3] (kv_wd g w) (some (.int 50)) (kv_wd g w) := by
  refine kx_ev (d := d + 1) (by decide) (Nat.le_of_ble_eq_true rfl) ?_
  refine kx_st 0 (pc' := 0) (L' := [some (.int 4), some (.int 3), none, none, none]) (st' := []) (h' := kv_wd g w) rfl ?_
  refine kx_st 6 (pc' := 8) (L' := [some (.int 4), some (.int 3), some (.int 4), some (.int 0), none]) (st' := [.ref 1003, .int 0]) (h' := kv_wd g w) rfl ?_
  refine kx_aE (n := 28) rfl hE3 (by decide) ?_
  refine kx_st 1 (pc' := 12) (L' := [some (.int 4), some (.int 3), some (.int 4), some (.int 0), none]) (st' := []) (h' := kv_wd g w) rfl ?_
  refine kx_st 1 (pc' := 13) (L' := [some (.int 4), some (.int 3), some (.int 4), some (.int 0), none]) (st' := [.int 4]) (h' := kv_wd g w) rfl ?_
  refine kx_st 1 (pc' := 16) (L' := [some (.int 4), some (.int 3), some (.int 4), some (.int 0), none]) (st' := []) (h' := kv_wd g w) rfl ?_
  refine kx_st 7 (pc' := 25) (L' := [some (.int 4), some (.int 3), some (.int 4), some (.int 0), some (.int 19)]) (st' := [.int 19]) (h' := kv_wd g w) rfl ?_
  refine kx_st 1 (pc' := 28) (L' := [some (.int 4), some (.int 3), some (.int 4), some (.int 0), some (.int 19)]) (st' := []) (h' := kv_wd g w) rfl ?_
  refine kx_st 2 (pc' := 33) (L' := [some (.int 4), some (.int 3), some (.int 4), some (.int 0), some (.int 19)]) (st' := [.ref 1003, .int 19]) (h' := kv_wd g w) rfl ?_
  refine kx_aE (n := 28) rfl hE3 (by decide) ?_
  refine kx_st 1 (pc' := 37) (L' := [some (.int 4), some (.int 3), some (.int 4), some (.int 0), some (.int 19)]) (st' := []) (h' := kv_wd g w) rfl ?_
  refine kx_st 2 (pc' := 42) (L' := [some (.int 4), some (.int 3), some (.int 4), some (.int 0), some (.int 19)]) (st' := [.int 19, .ref 1003]) (h' := kv_wd g w) rfl ?_
  refine kx_iE (k := 19) (f := kv_BO) rfl hE3 (by decide) rfl (by decide) (by omega) ?_
  refine kx_st 0 (pc' := 43) (L' := [some (.int 4), some (.int 3), some (.int 4), some (.int 0), some (.int 19)]) (st' := [.int 50]) (h' := kv_wd g w) rfl ?_
  refine kx_st 1 (pc' := 46) (L' := [some (.int 4), some (.int 3), some (.int 4), some (.int 0), some (.int 19)]) (st' := []) (h' := kv_wd g w) rfl ?_
  refine kx_st 2 (pc' := 51) (L' := [some (.int 4), some (.int 3), some (.int 4), some (.int 0), some (.int 19)]) (st' := [.int 19, .ref 1003]) (h' := kv_wd g w) rfl ?_
  refine kx_iE (k := 19) (f := kv_BO) rfl hE3 (by decide) rfl (by decide) (by omega) ?_
  refine kx_st 0 (pc' := 52) (L' := [some (.int 4), some (.int 3), some (.int 4), some (.int 0), some (.int 19)]) (st' := [.int 50]) (h' := kv_wd g w) rfl ?_
  refine kx_ret (v := some (.int 50)) rfl ?_
  exact ⟨rfl, rfl⟩
set_option maxRecDepth 100000 in
theorem ev_bodyOf_5_0 {E : kv_V} {d : Nat} {g : kv_S} {w : kv_W} (hE1 : E 1001 = some (0, 7, kv_KA)) (hE3 : E 1003 = some (0, 28, kv_BO)) : kv_ev E (d + 2) 75 [.int 5, .int 0] (kv_wd g w) (some (.int 10)) (kv_wd g w) := by
  refine kx_ev (d := d + 1) (by decide) (Nat.le_of_ble_eq_true rfl) ?_
  refine kx_st 0 (pc' := 0) (L' := [some (.int 5), some (.int 0), none, none, none]) (st' := []) (h' := kv_wd g w) rfl ?_
  refine kx_st 6 (pc' := 8) (L' := [some (.int 5), some (.int 0), some (.int 5), some (.int 0), none]) (st' := [.ref 1003, .int 0]) (h' := kv_wd g w) rfl ?_
  refine kx_aE (n := 28) rfl hE3 (by decide) ?_
  refine kx_st 1 (pc' := 12) (L' := [some (.int 5), some (.int 0), some (.int 5), some (.int 0), none]) (st' := []) (h' := kv_wd g w) rfl ?_
  refine kx_st 1 (pc' := 13) (L' := [some (.int 5), some (.int 0), some (.int 5), some (.int 0), none]) (st' := [.int 5]) (h' := kv_wd g w) rfl ?_
  refine kx_st 1 (pc' := 16) (L' := [some (.int 5), some (.int 0), some (.int 5), some (.int 0), none]) (st' := []) (h' := kv_wd g w) rfl ?_
  refine kx_st 7 (pc' := 25) (L' := [some (.int 5), some (.int 0), some (.int 5), some (.int 0), some (.int 20)]) (st' := [.int 20]) (h' := kv_wd g w) rfl ?_
  refine kx_st 1 (pc' := 28) (L' := [some (.int 5), some (.int 0), some (.int 5), some (.int 0), some (.int 20)]) (st' := []) (h' := kv_wd g w) rfl ?_
  refine kx_st 2 (pc' := 33) (L' := [some (.int 5), some (.int 0), some (.int 5), some (.int 0), some (.int 20)]) (st' := [.ref 1003, .int 20]) (h' := kv_wd g w) rfl ?_
  refine kx_aE (n := 28) rfl hE3 (by decide) ?_
  refine kx_st 1 (pc' := 37) (L' := [some (.int 5), some (.int 0), some (.int 5), some (.int 0), some (.int 20)]) (st' := []) (h' := kv_wd g w) rfl ?_
  refine kx_st 2 (pc' := 42) (L' := [some (.int 5), some (.int 0), some (.int 5), some (.int 0), some (.int 20)]) (st' := [.int 20, .ref 1003]) (h' := kv_wd g w) rfl ?_
  refine kx_iE (k := 20) (f := kv_BO) rfl hE3 (by decide) rfl (by decide) (by omega) ?_
  refine kx_st 0 (pc' := 43) (L' := [some (.int 5), some (.int 0), some (.int 5), some (.int 0), some (.int 20)]) (st' := [.int 0]) (h' := kv_wd g w) rfl ?_
  refine kx_st 1 (pc' := 53) (L' := [some (.int 5), some (.int 0), some (.int 5), some (.int 0), some (.int 20)]) (st' := []) (h' := kv_wd g w) rfl ?_
  refine kx_st 1 (pc' := 54) (L' := [some (.int 5), some (.int 0), some (.int 5), some (.int 0), some (.int 20)]) (st' := [.int 5]) (h' := kv_wd g w) rfl ?_
  refine kx_call (z := 28) (as := [.int 5]) (rest := []) (v := some (.int 2)) (h1 := kv_wd g w) rfl (ev_above_5 (d := d) hE1) ?_
  refine kx_st 0 (pc' := 57) (L' := [some (.int 5), some (.int 0), some (.int 5), some (.int 0), some (.int 20)]) (st' := [.int 2]) (h' := kv_wd g w) rfl ?_
  refine kx_st 5 (pc' := 8) (L' := [some (.int 5), some (.int 0), some (.int 2), some (.int 1), some (.int 20)]) (st' := [.ref 1003, .int 1]) (h' := kv_wd g w) rfl ?_
  refine kx_aE (n := 28) rfl hE3 (by decide) ?_
  refine kx_st 1 (pc' := 12) (L' := [some (.int 5), some (.int 0), some (.int 2), some (.int 1), some (.int 20)]) (st' := []) (h' := kv_wd g w) rfl ?_
  refine kx_st 1 (pc' := 13) (L' := [some (.int 5), some (.int 0), some (.int 2), some (.int 1), some (.int 20)]) (st' := [.int 2]) (h' := kv_wd g w) rfl ?_
  refine kx_st 1 (pc' := 16) (L' := [some (.int 5), some (.int 0), some (.int 2), some (.int 1), some (.int 20)]) (st' := []) (h' := kv_wd g w) rfl ?_
  refine kx_st 7 (pc' := 25) (L' := [some (.int 5), some (.int 0), some (.int 2), some (.int 1), some (.int 8)]) (st' := [.int 8]) (h' := kv_wd g w) rfl ?_
  refine kx_st 1 (pc' := 28) (L' := [some (.int 5), some (.int 0), some (.int 2), some (.int 1), some (.int 8)]) (st' := []) (h' := kv_wd g w) rfl ?_
  refine kx_st 2 (pc' := 33) (L' := [some (.int 5), some (.int 0), some (.int 2), some (.int 1), some (.int 8)]) (st' := [.ref 1003, .int 8]) (h' := kv_wd g w) rfl ?_
  refine kx_aE (n := 28) rfl hE3 (by decide) ?_
  refine kx_st 1 (pc' := 37) (L' := [some (.int 5), some (.int 0), some (.int 2), some (.int 1), some (.int 8)]) (st' := []) (h' := kv_wd g w) rfl ?_
  refine kx_st 2 (pc' := 42) (L' := [some (.int 5), some (.int 0), some (.int 2), some (.int 1), some (.int 8)]) (st' := [.int 8, .ref 1003]) (h' := kv_wd g w) rfl ?_
  refine kx_iE (k := 8) (f := kv_BO) rfl hE3 (by decide) rfl (by decide) (by omega) ?_
  refine kx_st 0 (pc' := 43) (L' := [some (.int 5), some (.int 0), some (.int 2), some (.int 1), some (.int 8)]) (st' := [.int 0]) (h' := kv_wd g w) rfl ?_
  refine kx_st 1 (pc' := 53) (L' := [some (.int 5), some (.int 0), some (.int 2), some (.int 1), some (.int 8)]) (st' := []) (h' := kv_wd g w) rfl ?_
  refine kx_st 1 (pc' := 54) (L' := [some (.int 5), some (.int 0), some (.int 2), some (.int 1), some (.int 8)]) (st' := [.int 2]) (h' := kv_wd g w) rfl ?_
  refine kx_call (z := 28) (as := [.int 2]) (rest := []) (v := some (.int 0)) (h1 := kv_wd g w) rfl (ev_above_2 (d := d) hE1) ?_
  refine kx_st 0 (pc' := 57) (L' := [some (.int 5), some (.int 0), some (.int 2), some (.int 1), some (.int 8)]) (st' := [.int 0]) (h' := kv_wd g w) rfl ?_
  refine kx_st 5 (pc' := 8) (L' := [some (.int 5), some (.int 0), some (.int 0), some (.int 2), some (.int 8)]) (st' := [.ref 1003, .int 2]) (h' := kv_wd g w) rfl ?_
  refine kx_aE (n := 28) rfl hE3 (by decide) ?_
  refine kx_st 1 (pc' := 12) (L' := [some (.int 5), some (.int 0), some (.int 0), some (.int 2), some (.int 8)]) (st' := []) (h' := kv_wd g w) rfl ?_
  refine kx_st 1 (pc' := 13) (L' := [some (.int 5), some (.int 0), some (.int 0), some (.int 2), some (.int 8)]) (st' := [.int 0]) (h' := kv_wd g w) rfl ?_
  refine kx_st 1 (pc' := 16) (L' := [some (.int 5), some (.int 0), some (.int 0), some (.int 2), some (.int 8)]) (st' := []) (h' := kv_wd g w) rfl ?_
  refine kx_st 7 (pc' := 25) (L' := [some (.int 5), some (.int 0), some (.int 0), some (.int 2), some (.int 0)]) (st' := [.int 0]) (h' := kv_wd g w) rfl ?_
  refine kx_st 1 (pc' := 28) (L' := [some (.int 5), some (.int 0), some (.int 0), some (.int 2), some (.int 0)]) (st' := []) (h' := kv_wd g w) rfl ?_
  refine kx_st 2 (pc' := 33) (L' := [some (.int 5), some (.int 0), some (.int 0), some (.int 2), some (.int 0)]) (st' := [.ref 1003, .int 0]) (h' := kv_wd g w) rfl ?_
  refine kx_aE (n := 28) rfl hE3 (by decide) ?_
  refine kx_st 1 (pc' := 37) (L' := [some (.int 5), some (.int 0), some (.int 0), some (.int 2), some (.int 0)]) (st' := []) (h' := kv_wd g w) rfl ?_
  refine kx_st 2 (pc' := 42) (L' := [some (.int 5), some (.int 0), some (.int 0), some (.int 2), some (.int 0)]) (st' := [.int 0, .ref 1003]) (h' := kv_wd g w) rfl ?_
  refine kx_iE (k := 0) (f := kv_BO) rfl hE3 (by decide) rfl (by decide) (by omega) ?_
  refine kx_st 0 (pc' := 43) (L' := [some (.int 5), some (.int 0), some (.int 0), some (.int 2), some (.int 0)]) (st' := [.int 10]) (h' := kv_wd g w) rfl ?_
  refine kx_st 1 (pc' := 46) (L' := [some (.int 5), some (.int 0), some (.int 0), some (.int 2), some (.int 0)]) (st' := []) (h' := kv_wd g w) rfl ?_
  refine kx_st 2 (pc' := 51) (L' := [some (.int 5), some (.int 0), some (.int 0), some (.int 2), some (.int 0)]) (st' := [.int 0, .ref 1003]) (h' := kv_wd g w) rfl ?_
  refine kx_iE (k := 0) (f := kv_BO) rfl hE3 (by decide) rfl (by decide) (by omega) ?_
  refine kx_st 0 (pc' := 52) (L' := [some (.int 5), some (.int 0), some (.int 0), some (.int 2), some (.int 0)]) (st' := [.int 10]) (h' := kv_wd g w) rfl ?_
  refine kx_ret (v := some (.int 10)) rfl ?_
  exact ⟨rfl, rfl⟩
set_option maxRecDepth 100000 in
theorem ev_bodyOf_5_1 {E : kv_V} {d : Nat} {g : kv_S} {w : kv_W} (hE1 : E 1001 = some (0, 7, kv_KA)) (hE3 : E 1003 = some (0, 28, kv_BO)) : kv_ev E (d + 2) 75 [.int 5, .int 1] (kv_wd g w) (some (.int 60)) (kv_wd g w) := by
  refine kx_ev (d := d + 1) (by decide) (Nat.le_of_ble_eq_true rfl) ?_
  refine kx_st 0 (pc' := 0) (L' := [some (.int 5), some (.int 1), none, none, none]) (st' := []) (h' := kv_wd g w) rfl ?_
  refine kx_st 6 (pc' := 8) (L' := [some (.int 5), some (.int 1), some (.int 5), some (.int 0), none]) (st' := [.ref 1003, .int 0]) (h' := kv_wd g w) rfl ?_
  refine kx_aE (n := 28) rfl hE3 (by decide) ?_
  refine kx_st 1 (pc' := 12) (L' := [some (.int 5), some (.int 1), some (.int 5), some (.int 0), none]) (st' := []) (h' := kv_wd g w) rfl ?_
  refine kx_st 1 (pc' := 13) (L' := [some (.int 5), some (.int 1), some (.int 5), some (.int 0), none]) (st' := [.int 5]) (h' := kv_wd g w) rfl ?_
  refine kx_st 1 (pc' := 16) (L' := [some (.int 5), some (.int 1), some (.int 5), some (.int 0), none]) (st' := []) (h' := kv_wd g w) rfl ?_
  refine kx_st 7 (pc' := 25) (L' := [some (.int 5), some (.int 1), some (.int 5), some (.int 0), some (.int 21)]) (st' := [.int 21]) (h' := kv_wd g w) rfl ?_
  refine kx_st 1 (pc' := 28) (L' := [some (.int 5), some (.int 1), some (.int 5), some (.int 0), some (.int 21)]) (st' := []) (h' := kv_wd g w) rfl ?_
  refine kx_st 2 (pc' := 33) (L' := [some (.int 5), some (.int 1), some (.int 5), some (.int 0), some (.int 21)]) (st' := [.ref 1003, .int 21]) (h' := kv_wd g w) rfl ?_
  refine kx_aE (n := 28) rfl hE3 (by decide) ?_
  refine kx_st 1 (pc' := 37) (L' := [some (.int 5), some (.int 1), some (.int 5), some (.int 0), some (.int 21)]) (st' := []) (h' := kv_wd g w) rfl ?_
  refine kx_st 2 (pc' := 42) (L' := [some (.int 5), some (.int 1), some (.int 5), some (.int 0), some (.int 21)]) (st' := [.int 21, .ref 1003]) (h' := kv_wd g w) rfl ?_
  refine kx_iE (k := 21) (f := kv_BO) rfl hE3 (by decide) rfl (by decide) (by omega) ?_
  refine kx_st 0 (pc' := 43) (L' := [some (.int 5), some (.int 1), some (.int 5), some (.int 0), some (.int 21)]) (st' := [.int 60]) (h' := kv_wd g w) rfl ?_
  refine kx_st 1 (pc' := 46) (L' := [some (.int 5), some (.int 1), some (.int 5), some (.int 0), some (.int 21)]) (st' := []) (h' := kv_wd g w) rfl ?_
  refine kx_st 2 (pc' := 51) (L' := [some (.int 5), some (.int 1), some (.int 5), some (.int 0), some (.int 21)]) (st' := [.int 21, .ref 1003]) (h' := kv_wd g w) rfl ?_
  refine kx_iE (k := 21) (f := kv_BO) rfl hE3 (by decide) rfl (by decide) (by omega) ?_
  refine kx_st 0 (pc' := 52) (L' := [some (.int 5), some (.int 1), some (.int 5), some (.int 0), some (.int 21)]) (st' := [.int 60]) (h' := kv_wd g w) rfl ?_
  refine kx_ret (v := some (.int 60)) rfl ?_
  exact ⟨rfl, rfl⟩
set_option maxRecDepth 100000 in
theorem ev_bodyOf_5_2 {E : kv_V} {d : Nat} {g : kv_S} {w : kv_W} (hE1 : E 1001 = some (0, 7, kv_KA)) (hE3 : E 1003 = some (0, 28, kv_BO)) : kv_ev E (d + 2) 75 [.int 5, .int 2] (kv_wd g w) (some (.int 12)) (kv_wd g w) := by
  refine kx_ev (d := d + 1) (by decide) (Nat.le_of_ble_eq_true rfl) ?_
  refine kx_st 0 (pc' := 0) (L' := [some (.int 5), some (.int 2), none, none, none]) (st' := []) (h' := kv_wd g w) rfl ?_
  refine kx_st 6 (pc' := 8) (L' := [some (.int 5), some (.int 2), some (.int 5), some (.int 0), none]) (st' := [.ref 1003, .int 0]) (h' := kv_wd g w) rfl ?_
  refine kx_aE (n := 28) rfl hE3 (by decide) ?_
  refine kx_st 1 (pc' := 12) (L' := [some (.int 5), some (.int 2), some (.int 5), some (.int 0), none]) (st' := []) (h' := kv_wd g w) rfl ?_
  refine kx_st 1 (pc' := 13) (L' := [some (.int 5), some (.int 2), some (.int 5), some (.int 0), none]) (st' := [.int 5]) (h' := kv_wd g w) rfl ?_
  refine kx_st 1 (pc' := 16) (L' := [some (.int 5), some (.int 2), some (.int 5), some (.int 0), none]) (st' := []) (h' := kv_wd g w) rfl ?_
  refine kx_st 7 (pc' := 25) (L' := [some (.int 5), some (.int 2), some (.int 5), some (.int 0), some (.int 22)]) (st' := [.int 22]) (h' := kv_wd g w) rfl ?_
  refine kx_st 1 (pc' := 28) (L' := [some (.int 5), some (.int 2), some (.int 5), some (.int 0), some (.int 22)]) (st' := []) (h' := kv_wd g w) rfl ?_
  refine kx_st 2 (pc' := 33) (L' := [some (.int 5), some (.int 2), some (.int 5), some (.int 0), some (.int 22)]) (st' := [.ref 1003, .int 22]) (h' := kv_wd g w) rfl ?_
  refine kx_aE (n := 28) rfl hE3 (by decide) ?_
  refine kx_st 1 (pc' := 37) (L' := [some (.int 5), some (.int 2), some (.int 5), some (.int 0), some (.int 22)]) (st' := []) (h' := kv_wd g w) rfl ?_
  refine kx_st 2 (pc' := 42) (L' := [some (.int 5), some (.int 2), some (.int 5), some (.int 0), some (.int 22)]) (st' := [.int 22, .ref 1003]) (h' := kv_wd g w) rfl ?_
  refine kx_iE (k := 22) (f := kv_BO) rfl hE3 (by decide) rfl (by decide) (by omega) ?_
  refine kx_st 0 (pc' := 43) (L' := [some (.int 5), some (.int 2), some (.int 5), some (.int 0), some (.int 22)]) (st' := [.int 0]) (h' := kv_wd g w) rfl ?_
  refine kx_st 1 (pc' := 53) (L' := [some (.int 5), some (.int 2), some (.int 5), some (.int 0), some (.int 22)]) (st' := []) (h' := kv_wd g w) rfl ?_
  refine kx_st 1 (pc' := 54) (L' := [some (.int 5), some (.int 2), some (.int 5), some (.int 0), some (.int 22)]) (st' := [.int 5]) (h' := kv_wd g w) rfl ?_
  refine kx_call (z := 28) (as := [.int 5]) (rest := []) (v := some (.int 2)) (h1 := kv_wd g w) rfl (ev_above_5 (d := d) hE1) ?_
  refine kx_st 0 (pc' := 57) (L' := [some (.int 5), some (.int 2), some (.int 5), some (.int 0), some (.int 22)]) (st' := [.int 2]) (h' := kv_wd g w) rfl ?_
  refine kx_st 5 (pc' := 8) (L' := [some (.int 5), some (.int 2), some (.int 2), some (.int 1), some (.int 22)]) (st' := [.ref 1003, .int 1]) (h' := kv_wd g w) rfl ?_
  refine kx_aE (n := 28) rfl hE3 (by decide) ?_
  refine kx_st 1 (pc' := 12) (L' := [some (.int 5), some (.int 2), some (.int 2), some (.int 1), some (.int 22)]) (st' := []) (h' := kv_wd g w) rfl ?_
  refine kx_st 1 (pc' := 13) (L' := [some (.int 5), some (.int 2), some (.int 2), some (.int 1), some (.int 22)]) (st' := [.int 2]) (h' := kv_wd g w) rfl ?_
  refine kx_st 1 (pc' := 16) (L' := [some (.int 5), some (.int 2), some (.int 2), some (.int 1), some (.int 22)]) (st' := []) (h' := kv_wd g w) rfl ?_
  refine kx_st 7 (pc' := 25) (L' := [some (.int 5), some (.int 2), some (.int 2), some (.int 1), some (.int 10)]) (st' := [.int 10]) (h' := kv_wd g w) rfl ?_
  refine kx_st 1 (pc' := 28) (L' := [some (.int 5), some (.int 2), some (.int 2), some (.int 1), some (.int 10)]) (st' := []) (h' := kv_wd g w) rfl ?_
  refine kx_st 2 (pc' := 33) (L' := [some (.int 5), some (.int 2), some (.int 2), some (.int 1), some (.int 10)]) (st' := [.ref 1003, .int 10]) (h' := kv_wd g w) rfl ?_
  refine kx_aE (n := 28) rfl hE3 (by decide) ?_
  refine kx_st 1 (pc' := 37) (L' := [some (.int 5), some (.int 2), some (.int 2), some (.int 1), some (.int 10)]) (st' := []) (h' := kv_wd g w) rfl ?_
  refine kx_st 2 (pc' := 42) (L' := [some (.int 5), some (.int 2), some (.int 2), some (.int 1), some (.int 10)]) (st' := [.int 10, .ref 1003]) (h' := kv_wd g w) rfl ?_
  refine kx_iE (k := 10) (f := kv_BO) rfl hE3 (by decide) rfl (by decide) (by omega) ?_
  refine kx_st 0 (pc' := 43) (L' := [some (.int 5), some (.int 2), some (.int 2), some (.int 1), some (.int 10)]) (st' := [.int 0]) (h' := kv_wd g w) rfl ?_
  refine kx_st 1 (pc' := 53) (L' := [some (.int 5), some (.int 2), some (.int 2), some (.int 1), some (.int 10)]) (st' := []) (h' := kv_wd g w) rfl ?_
  refine kx_st 1 (pc' := 54) (L' := [some (.int 5), some (.int 2), some (.int 2), some (.int 1), some (.int 10)]) (st' := [.int 2]) (h' := kv_wd g w) rfl ?_
  refine kx_call (z := 28) (as := [.int 2]) (rest := []) (v := some (.int 0)) (h1 := kv_wd g w) rfl (ev_above_2 (d := d) hE1) ?_
  refine kx_st 0 (pc' := 57) (L' := [some (.int 5), some (.int 2), some (.int 2), some (.int 1), some (.int 10)]) (st' := [.int 0]) (h' := kv_wd g w) rfl ?_
  refine kx_st 5 (pc' := 8) (L' := [some (.int 5), some (.int 2), some (.int 0), some (.int 2), some (.int 10)]) (st' := [.ref 1003, .int 2]) (h' := kv_wd g w) rfl ?_
  refine kx_aE (n := 28) rfl hE3 (by decide) ?_
  refine kx_st 1 (pc' := 12) (L' := [some (.int 5), some (.int 2), some (.int 0), some (.int 2), some (.int 10)]) (st' := []) (h' := kv_wd g w) rfl ?_
  refine kx_st 1 (pc' := 13) (L' := [some (.int 5), some (.int 2), some (.int 0), some (.int 2), some (.int 10)]) (st' := [.int 0]) (h' := kv_wd g w) rfl ?_
  refine kx_st 1 (pc' := 16) (L' := [some (.int 5), some (.int 2), some (.int 0), some (.int 2), some (.int 10)]) (st' := []) (h' := kv_wd g w) rfl ?_
  refine kx_st 7 (pc' := 25) (L' := [some (.int 5), some (.int 2), some (.int 0), some (.int 2), some (.int 2)]) (st' := [.int 2]) (h' := kv_wd g w) rfl ?_
  refine kx_st 1 (pc' := 28) (L' := [some (.int 5), some (.int 2), some (.int 0), some (.int 2), some (.int 2)]) (st' := []) (h' := kv_wd g w) rfl ?_
  refine kx_st 2 (pc' := 33) (L' := [some (.int 5), some (.int 2), some (.int 0), some (.int 2), some (.int 2)]) (st' := [.ref 1003, .int 2]) (h' := kv_wd g w) rfl ?_
  refine kx_aE (n := 28) rfl hE3 (by decide) ?_
  refine kx_st 1 (pc' := 37) (L' := [some (.int 5), some (.int 2), some (.int 0), some (.int 2), some (.int 2)]) (st' := []) (h' := kv_wd g w) rfl ?_
  refine kx_st 2 (pc' := 42) (L' := [some (.int 5), some (.int 2), some (.int 0), some (.int 2), some (.int 2)]) (st' := [.int 2, .ref 1003]) (h' := kv_wd g w) rfl ?_
  refine kx_iE (k := 2) (f := kv_BO) rfl hE3 (by decide) rfl (by decide) (by omega) ?_
  refine kx_st 0 (pc' := 43) (L' := [some (.int 5), some (.int 2), some (.int 0), some (.int 2), some (.int 2)]) (st' := [.int 12]) (h' := kv_wd g w) rfl ?_
  refine kx_st 1 (pc' := 46) (L' := [some (.int 5), some (.int 2), some (.int 0), some (.int 2), some (.int 2)]) (st' := []) (h' := kv_wd g w) rfl ?_
  refine kx_st 2 (pc' := 51) (L' := [some (.int 5), some (.int 2), some (.int 0), some (.int 2), some (.int 2)]) (st' := [.int 2, .ref 1003]) (h' := kv_wd g w) rfl ?_
  refine kx_iE (k := 2) (f := kv_BO) rfl hE3 (by decide) rfl (by decide) (by omega) ?_
  refine kx_st 0 (pc' := 52) (L' := [some (.int 5), some (.int 2), some (.int 0), some (.int 2), some (.int 2)]) (st' := [.int 12]) (h' := kv_wd g w) rfl ?_
  refine kx_ret (v := some (.int 12)) rfl ?_
  exact ⟨rfl, rfl⟩
set_option maxRecDepth 100000 in
theorem ev_bodyOf_5_3 {E : kv_V} {d : Nat} {g : kv_S} {w : kv_W} (hE1 : E 1001 = some (0, 7, kv_KA)) (hE3 : E 1003 = some (0, 28, kv_BO)) : kv_ev E (d + 2) 75 [.int 5, .int 3] (kv_wd g w) (some (.int 13)) (kv_wd g w) := by
  refine kx_ev (d := d + 1) (by decide) (Nat.le_of_ble_eq_true rfl) ?_
  refine kx_st 0 (pc' := 0) (L' := [some (.int 5), some (.int 3), none, none, none]) (st' := []) (h' := kv_wd g w) rfl ?_
  refine kx_st 6 (pc' := 8) (L' := [some (.int 5), some (.int 3), some (.int 5), some (.int 0), none]) (st' := [.ref 1003, .int 0]) (h' := kv_wd g w) rfl ?_
  refine kx_aE (n := 28) rfl hE3 (by decide) ?_
  refine kx_st 1 (pc' := 12) (L' := [some (.int 5), some (.int 3), some (.int 5), some (.int 0), none]) (st' := []) (h' := kv_wd g w) rfl ?_
  refine kx_st 1 (pc' := 13) (L' := [some (.int 5), some (.int 3), some (.int 5), some (.int 0), none]) (st' := [.int 5]) (h' := kv_wd g w) rfl ?_
  refine kx_st 1 (pc' := 16) (L' := [some (.int 5), some (.int 3), some (.int 5), some (.int 0), none]) (st' := []) (h' := kv_wd g w) rfl ?_
  refine kx_st 7 (pc' := 25) (L' := [some (.int 5), some (.int 3), some (.int 5), some (.int 0), some (.int 23)]) (st' := [.int 23]) (h' := kv_wd g w) rfl ?_
  refine kx_st 1 (pc' := 28) (L' := [some (.int 5), some (.int 3), some (.int 5), some (.int 0), some (.int 23)]) (st' := []) (h' := kv_wd g w) rfl ?_
  refine kx_st 2 (pc' := 33) (L' := [some (.int 5), some (.int 3), some (.int 5), some (.int 0), some (.int 23)]) (st' := [.ref 1003, .int 23]) (h' := kv_wd g w) rfl ?_
  refine kx_aE (n := 28) rfl hE3 (by decide) ?_
  refine kx_st 1 (pc' := 37) (L' := [some (.int 5), some (.int 3), some (.int 5), some (.int 0), some (.int 23)]) (st' := []) (h' := kv_wd g w) rfl ?_
  refine kx_st 2 (pc' := 42) (L' := [some (.int 5), some (.int 3), some (.int 5), some (.int 0), some (.int 23)]) (st' := [.int 23, .ref 1003]) (h' := kv_wd g w) rfl ?_
  refine kx_iE (k := 23) (f := kv_BO) rfl hE3 (by decide) rfl (by decide) (by omega) ?_
  refine kx_st 0 (pc' := 43) (L' := [some (.int 5), some (.int 3), some (.int 5), some (.int 0), some (.int 23)]) (st' := [.int 0]) (h' := kv_wd g w) rfl ?_
  refine kx_st 1 (pc' := 53) (L' := [some (.int 5), some (.int 3), some (.int 5), some (.int 0), some (.int 23)]) (st' := []) (h' := kv_wd g w) rfl ?_
  refine kx_st 1 (pc' := 54) (L' := [some (.int 5), some (.int 3), some (.int 5), some (.int 0), some (.int 23)]) (st' := [.int 5]) (h' := kv_wd g w) rfl ?_
  refine kx_call (z := 28) (as := [.int 5]) (rest := []) (v := some (.int 2)) (h1 := kv_wd g w) rfl (ev_above_5 (d := d) hE1) ?_
  refine kx_st 0 (pc' := 57) (L' := [some (.int 5), some (.int 3), some (.int 5), some (.int 0), some (.int 23)]) (st' := [.int 2]) (h' := kv_wd g w) rfl ?_
  refine kx_st 5 (pc' := 8) (L' := [some (.int 5), some (.int 3), some (.int 2), some (.int 1), some (.int 23)]) (st' := [.ref 1003, .int 1]) (h' := kv_wd g w) rfl ?_
  refine kx_aE (n := 28) rfl hE3 (by decide) ?_
  refine kx_st 1 (pc' := 12) (L' := [some (.int 5), some (.int 3), some (.int 2), some (.int 1), some (.int 23)]) (st' := []) (h' := kv_wd g w) rfl ?_
  refine kx_st 1 (pc' := 13) (L' := [some (.int 5), some (.int 3), some (.int 2), some (.int 1), some (.int 23)]) (st' := [.int 2]) (h' := kv_wd g w) rfl ?_
  refine kx_st 1 (pc' := 16) (L' := [some (.int 5), some (.int 3), some (.int 2), some (.int 1), some (.int 23)]) (st' := []) (h' := kv_wd g w) rfl ?_
  refine kx_st 7 (pc' := 25) (L' := [some (.int 5), some (.int 3), some (.int 2), some (.int 1), some (.int 11)]) (st' := [.int 11]) (h' := kv_wd g w) rfl ?_
  refine kx_st 1 (pc' := 28) (L' := [some (.int 5), some (.int 3), some (.int 2), some (.int 1), some (.int 11)]) (st' := []) (h' := kv_wd g w) rfl ?_
  refine kx_st 2 (pc' := 33) (L' := [some (.int 5), some (.int 3), some (.int 2), some (.int 1), some (.int 11)]) (st' := [.ref 1003, .int 11]) (h' := kv_wd g w) rfl ?_
  refine kx_aE (n := 28) rfl hE3 (by decide) ?_
  refine kx_st 1 (pc' := 37) (L' := [some (.int 5), some (.int 3), some (.int 2), some (.int 1), some (.int 11)]) (st' := []) (h' := kv_wd g w) rfl ?_
  refine kx_st 2 (pc' := 42) (L' := [some (.int 5), some (.int 3), some (.int 2), some (.int 1), some (.int 11)]) (st' := [.int 11, .ref 1003]) (h' := kv_wd g w) rfl ?_
  refine kx_iE (k := 11) (f := kv_BO) rfl hE3 (by decide) rfl (by decide) (by omega) ?_
  refine kx_st 0 (pc' := 43) (L' := [some (.int 5), some (.int 3), some (.int 2), some (.int 1), some (.int 11)]) (st' := [.int 0]) (h' := kv_wd g w) rfl ?_
  refine kx_st 1 (pc' := 53) (L' := [some (.int 5), some (.int 3), some (.int 2), some (.int 1), some (.int 11)]) (st' := []) (h' := kv_wd g w) rfl ?_
  refine kx_st 1 (pc' := 54) (L' := [some (.int 5), some (.int 3), some (.int 2), some (.int 1), some (.int 11)]) (st' := [.int 2]) (h' := kv_wd g w) rfl ?_
  refine kx_call (z := 28) (as := [.int 2]) (rest := []) (v := some (.int 0)) (h1 := kv_wd g w) rfl (ev_above_2 (d := d) hE1) ?_
  refine kx_st 0 (pc' := 57) (L' := [some (.int 5), some (.int 3), some (.int 2), some (.int 1), some (.int 11)]) (st' := [.int 0]) (h' := kv_wd g w) rfl ?_
  refine kx_st 5 (pc' := 8) (L' := [some (.int 5), some (.int 3), some (.int 0), some (.int 2), some (.int 11)]) (st' := [.ref 1003, .int 2]) (h' := kv_wd g w) rfl ?_
  refine kx_aE (n := 28) rfl hE3 (by decide) ?_
  refine kx_st 1 (pc' := 12) (L' := [some (.int 5), some (.int 3), some (.int 0), some (.int 2), some (.int 11)]) (st' := []) (h' := kv_wd g w) rfl ?_
  refine kx_st 1 (pc' := 13) (L' := [some (.int 5), some (.int 3), some (.int 0), some (.int 2), some (.int 11)]) (st' := [.int 0]) (h' := kv_wd g w) rfl ?_
  refine kx_st 1 (pc' := 16) (L' := [some (.int 5), some (.int 3), some (.int 0), some (.int 2), some (.int 11)]) (st' := []) (h' := kv_wd g w) rfl ?_
  refine kx_st 7 (pc' := 25) (L' := [some (.int 5), some (.int 3), some (.int 0), some (.int 2), some (.int 3)]) (st' := [.int 3]) (h' := kv_wd g w) rfl ?_
  refine kx_st 1 (pc' := 28) (L' := [some (.int 5), some (.int 3), some (.int 0), some (.int 2), some (.int 3)]) (st' := []) (h' := kv_wd g w) rfl ?_
  refine kx_st 2 (pc' := 33) (L' := [some (.int 5), some (.int 3), some (.int 0), some (.int 2), some (.int 3)]) (st' := [.ref 1003, .int 3]) (h' := kv_wd g w) rfl ?_
  refine kx_aE (n := 28) rfl hE3 (by decide) ?_
  refine kx_st 1 (pc' := 37) (L' := [some (.int 5), some (.int 3), some (.int 0), some (.int 2), some (.int 3)]) (st' := []) (h' := kv_wd g w) rfl ?_
  refine kx_st 2 (pc' := 42) (L' := [some (.int 5), some (.int 3), some (.int 0), some (.int 2), some (.int 3)]) (st' := [.int 3, .ref 1003]) (h' := kv_wd g w) rfl ?_
  refine kx_iE (k := 3) (f := kv_BO) rfl hE3 (by decide) rfl (by decide) (by omega) ?_
  refine kx_st 0 (pc' := 43) (L' := [some (.int 5), some (.int 3), some (.int 0), some (.int 2), some (.int 3)]) (st' := [.int 13]) (h' := kv_wd g w) rfl ?_
  refine kx_st 1 (pc' := 46) (L' := [some (.int 5), some (.int 3), some (.int 0), some (.int 2), some (.int 3)]) (st' := []) (h' := kv_wd g w) rfl ?_
  refine kx_st 2 (pc' := 51) (L' := [some (.int 5), some (.int 3), some (.int 0), some (.int 2), some (.int 3)]) (st' := [.int 3, .ref 1003]) (h' := kv_wd g w) rfl ?_
  refine kx_iE (k := 3) (f := kv_BO) rfl hE3 (by decide) rfl (by decide) (by omega) ?_
  refine kx_st 0 (pc' := 52) (L' := [some (.int 5), some (.int 3), some (.int 0), some (.int 2), some (.int 3)]) (st' := [.int 13]) (h' := kv_wd g w) rfl ?_
  refine kx_ret (v := some (.int 13)) rfl ?_
  exact ⟨rfl, rfl⟩
set_option maxRecDepth 100000 in
theorem ev_bodyOf_6_0 {E : kv_V} {d : Nat} {g : kv_S} {w : kv_W} (hE1 : E 1001 = some (0, 7, kv_KA)) (hE3 : E 1003 = some (0, 28, kv_BO)) : kv_ev E (d + 2) 75 [.int 6, .int 0] (kv_wd g w) (some (.int 10)) (kv_wd g w) := by
  refine kx_ev (d := d + 1) (by decide) (Nat.le_of_ble_eq_true rfl) ?_
  refine kx_st 0 (pc' := 0) (L' := [some (.int 6), some (.int 0), none, none, none]) (st' := []) (h' := kv_wd g w) rfl ?_
  refine kx_st 6 (pc' := 8) (L' := [some (.int 6), some (.int 0), some (.int 6), some (.int 0), none]) (st' := [.ref 1003, .int 0]) (h' := kv_wd g w) rfl ?_
  refine kx_aE (n := 28) rfl hE3 (by decide) ?_
  refine kx_st 1 (pc' := 12) (L' := [some (.int 6), some (.int 0), some (.int 6), some (.int 0), none]) (st' := []) (h' := kv_wd g w) rfl ?_
  refine kx_st 1 (pc' := 13) (L' := [some (.int 6), some (.int 0), some (.int 6), some (.int 0), none]) (st' := [.int 6]) (h' := kv_wd g w) rfl ?_
  refine kx_st 1 (pc' := 16) (L' := [some (.int 6), some (.int 0), some (.int 6), some (.int 0), none]) (st' := []) (h' := kv_wd g w) rfl ?_
  refine kx_st 7 (pc' := 25) (L' := [some (.int 6), some (.int 0), some (.int 6), some (.int 0), some (.int 24)]) (st' := [.int 24]) (h' := kv_wd g w) rfl ?_
  refine kx_st 1 (pc' := 28) (L' := [some (.int 6), some (.int 0), some (.int 6), some (.int 0), some (.int 24)]) (st' := []) (h' := kv_wd g w) rfl ?_
  refine kx_st 2 (pc' := 33) (L' := [some (.int 6), some (.int 0), some (.int 6), some (.int 0), some (.int 24)]) (st' := [.ref 1003, .int 24]) (h' := kv_wd g w) rfl ?_
  refine kx_aE (n := 28) rfl hE3 (by decide) ?_
  refine kx_st 1 (pc' := 37) (L' := [some (.int 6), some (.int 0), some (.int 6), some (.int 0), some (.int 24)]) (st' := []) (h' := kv_wd g w) rfl ?_
  refine kx_st 2 (pc' := 42) (L' := [some (.int 6), some (.int 0), some (.int 6), some (.int 0), some (.int 24)]) (st' := [.int 24, .ref 1003]) (h' := kv_wd g w) rfl ?_
  refine kx_iE (k := 24) (f := kv_BO) rfl hE3 (by decide) rfl (by decide) (by omega) ?_
  refine kx_st 0 (pc' := 43) (L' := [some (.int 6), some (.int 0), some (.int 6), some (.int 0), some (.int 24)]) (st' := [.int 0]) (h' := kv_wd g w) rfl ?_
  refine kx_st 1 (pc' := 53) (L' := [some (.int 6), some (.int 0), some (.int 6), some (.int 0), some (.int 24)]) (st' := []) (h' := kv_wd g w) rfl ?_
  refine kx_st 1 (pc' := 54) (L' := [some (.int 6), some (.int 0), some (.int 6), some (.int 0), some (.int 24)]) (st' := [.int 6]) (h' := kv_wd g w) rfl ?_
  refine kx_call (z := 28) (as := [.int 6]) (rest := []) (v := some (.int 3)) (h1 := kv_wd g w) rfl (ev_above_6 (d := d) hE1) ?_
  refine kx_st 0 (pc' := 57) (L' := [some (.int 6), some (.int 0), some (.int 6), some (.int 0), some (.int 24)]) (st' := [.int 3]) (h' := kv_wd g w) rfl ?_
  refine kx_st 5 (pc' := 8) (L' := [some (.int 6), some (.int 0), some (.int 3), some (.int 1), some (.int 24)]) (st' := [.ref 1003, .int 1]) (h' := kv_wd g w) rfl ?_
  refine kx_aE (n := 28) rfl hE3 (by decide) ?_
  refine kx_st 1 (pc' := 12) (L' := [some (.int 6), some (.int 0), some (.int 3), some (.int 1), some (.int 24)]) (st' := []) (h' := kv_wd g w) rfl ?_
  refine kx_st 1 (pc' := 13) (L' := [some (.int 6), some (.int 0), some (.int 3), some (.int 1), some (.int 24)]) (st' := [.int 3]) (h' := kv_wd g w) rfl ?_
  refine kx_st 1 (pc' := 16) (L' := [some (.int 6), some (.int 0), some (.int 3), some (.int 1), some (.int 24)]) (st' := []) (h' := kv_wd g w) rfl ?_
  refine kx_st 7 (pc' := 25) (L' := [some (.int 6), some (.int 0), some (.int 3), some (.int 1), some (.int 12)]) (st' := [.int 12]) (h' := kv_wd g w) rfl ?_
  refine kx_st 1 (pc' := 28) (L' := [some (.int 6), some (.int 0), some (.int 3), some (.int 1), some (.int 12)]) (st' := []) (h' := kv_wd g w) rfl ?_
  refine kx_st 2 (pc' := 33) (L' := [some (.int 6), some (.int 0), some (.int 3), some (.int 1), some (.int 12)]) (st' := [.ref 1003, .int 12]) (h' := kv_wd g w) rfl ?_
  refine kx_aE (n := 28) rfl hE3 (by decide) ?_
  refine kx_st 1 (pc' := 37) (L' := [some (.int 6), some (.int 0), some (.int 3), some (.int 1), some (.int 12)]) (st' := []) (h' := kv_wd g w) rfl ?_
  refine kx_st 2 (pc' := 42) (L' := [some (.int 6), some (.int 0), some (.int 3), some (.int 1), some (.int 12)]) (st' := [.int 12, .ref 1003]) (h' := kv_wd g w) rfl ?_
  refine kx_iE (k := 12) (f := kv_BO) rfl hE3 (by decide) rfl (by decide) (by omega) ?_
  refine kx_st 0 (pc' := 43) (L' := [some (.int 6), some (.int 0), some (.int 3), some (.int 1), some (.int 12)]) (st' := [.int 0]) (h' := kv_wd g w) rfl ?_
  refine kx_st 1 (pc' := 53) (L' := [some (.int 6), some (.int 0), some (.int 3), some (.int 1), some (.int 12)]) (st' := []) (h' := kv_wd g w) rfl ?_
  refine kx_st 1 (pc' := 54) (L' := [some (.int 6), some (.int 0), some (.int 3), some (.int 1), some (.int 12)]) (st' := [.int 3]) (h' := kv_wd g w) rfl ?_
  refine kx_call (z := 28) (as := [.int 3]) (rest := []) (v := some (.int 0)) (h1 := kv_wd g w) rfl (ev_above_3 (d := d) hE1) ?_
  refine kx_st 0 (pc' := 57) (L' := [some (.int 6), some (.int 0), some (.int 3), some (.int 1), some (.int 12)]) (st' := [.int 0]) (h' := kv_wd g w) rfl ?_
  refine kx_st 5 (pc' := 8) (L' := [some (.int 6), some (.int 0), some (.int 0), some (.int 2), some (.int 12)]) (st' := [.ref 1003, .int 2]) (h' := kv_wd g w) rfl ?_
  refine kx_aE (n := 28) rfl hE3 (by decide) ?_
  refine kx_st 1 (pc' := 12) (L' := [some (.int 6), some (.int 0), some (.int 0), some (.int 2), some (.int 12)]) (st' := []) (h' := kv_wd g w) rfl ?_
  refine kx_st 1 (pc' := 13) (L' := [some (.int 6), some (.int 0), some (.int 0), some (.int 2), some (.int 12)]) (st' := [.int 0]) (h' := kv_wd g w) rfl ?_
  refine kx_st 1 (pc' := 16) (L' := [some (.int 6), some (.int 0), some (.int 0), some (.int 2), some (.int 12)]) (st' := []) (h' := kv_wd g w) rfl ?_
  refine kx_st 7 (pc' := 25) (L' := [some (.int 6), some (.int 0), some (.int 0), some (.int 2), some (.int 0)]) (st' := [.int 0]) (h' := kv_wd g w) rfl ?_
  refine kx_st 1 (pc' := 28) (L' := [some (.int 6), some (.int 0), some (.int 0), some (.int 2), some (.int 0)]) (st' := []) (h' := kv_wd g w) rfl ?_
  refine kx_st 2 (pc' := 33) (L' := [some (.int 6), some (.int 0), some (.int 0), some (.int 2), some (.int 0)]) (st' := [.ref 1003, .int 0]) (h' := kv_wd g w) rfl ?_
  refine kx_aE (n := 28) rfl hE3 (by decide) ?_
  refine kx_st 1 (pc' := 37) (L' := [some (.int 6), some (.int 0), some (.int 0), some (.int 2), some (.int 0)]) (st' := []) (h' := kv_wd g w) rfl ?_
  refine kx_st 2 (pc' := 42) (L' := [some (.int 6), some (.int 0), some (.int 0), some (.int 2), some (.int 0)]) (st' := [.int 0, .ref 1003]) (h' := kv_wd g w) rfl ?_
  refine kx_iE (k := 0) (f := kv_BO) rfl hE3 (by decide) rfl (by decide) (by omega) ?_
  refine kx_st 0 (pc' := 43) (L' := [some (.int 6), some (.int 0), some (.int 0), some (.int 2), some (.int 0)]) (st' := [.int 10]) (h' := kv_wd g w) rfl ?_
  refine kx_st 1 (pc' := 46) (L' := [some (.int 6), some (.int 0), some (.int 0), some (.int 2), some (.int 0)]) (st' := []) (h' := kv_wd g w) rfl ?_
  refine kx_st 2 (pc' := 51) (L' := [some (.int 6), some (.int 0), some (.int 0), some (.int 2), some (.int 0)]) (st' := [.int 0, .ref 1003]) (h' := kv_wd g w) rfl ?_
  refine kx_iE (k := 0) (f := kv_BO) rfl hE3 (by decide) rfl (by decide) (by omega) ?_
  refine kx_st 0 (pc' := 52) (L' := [some (.int 6), some (.int 0), some (.int 0), some (.int 2), some (.int 0)]) (st' := [.int 10]) (h' := kv_wd g w) rfl ?_
  refine kx_ret (v := some (.int 10)) rfl ?_
  exact ⟨rfl, rfl⟩
set_option maxRecDepth 100000 in
theorem ev_bodyOf_6_1 {E : kv_V} {d : Nat} {g : kv_S} {w : kv_W} (hE1 : E 1001 = some (0, 7, kv_KA)) (hE3 : E 1003 = some (0, 28, kv_BO)) : kv_ev E (d + 2) 75 [.int 6, .int 1] (kv_wd g w) (some (.int 11)) (kv_wd g w) := by
  refine kx_ev (d := d + 1) (by decide) (Nat.le_of_ble_eq_true rfl) ?_
  refine kx_st 0 (pc' := 0) (L' := [some (.int 6), some (.int 1), none, none, none]) (st' := []) (h' := kv_wd g w) rfl ?_
  refine kx_st 6 (pc' := 8) (L' := [some (.int 6), some (.int 1), some (.int 6), some (.int 0), none]) (st' := [.ref 1003, .int 0]) (h' := kv_wd g w) rfl ?_
  refine kx_aE (n := 28) rfl hE3 (by decide) ?_
  refine kx_st 1 (pc' := 12) (L' := [some (.int 6), some (.int 1), some (.int 6), some (.int 0), none]) (st' := []) (h' := kv_wd g w) rfl ?_
  refine kx_st 1 (pc' := 13) (L' := [some (.int 6), some (.int 1), some (.int 6), some (.int 0), none]) (st' := [.int 6]) (h' := kv_wd g w) rfl ?_
  refine kx_st 1 (pc' := 16) (L' := [some (.int 6), some (.int 1), some (.int 6), some (.int 0), none]) (st' := []) (h' := kv_wd g w) rfl ?_
  refine kx_st 7 (pc' := 25) (L' := [some (.int 6), some (.int 1), some (.int 6), some (.int 0), some (.int 25)]) (st' := [.int 25]) (h' := kv_wd g w) rfl ?_
  refine kx_st 1 (pc' := 28) (L' := [some (.int 6), some (.int 1), some (.int 6), some (.int 0), some (.int 25)]) (st' := []) (h' := kv_wd g w) rfl ?_
  refine kx_st 2 (pc' := 33) (L' := [some (.int 6), some (.int 1), some (.int 6), some (.int 0), some (.int 25)]) (st' := [.ref 1003, .int 25]) (h' := kv_wd g w) rfl ?_
  refine kx_aE (n := 28) rfl hE3 (by decide) ?_
  refine kx_st 1 (pc' := 37) (L' := [some (.int 6), some (.int 1), some (.int 6), some (.int 0), some (.int 25)]) (st' := []) (h' := kv_wd g w) rfl ?_
  refine kx_st 2 (pc' := 42) (L' := [some (.int 6), some (.int 1), some (.int 6), some (.int 0), some (.int 25)]) (st' := [.int 25, .ref 1003]) (h' := kv_wd g w) rfl ?_
  refine kx_iE (k := 25) (f := kv_BO) rfl hE3 (by decide) rfl (by decide) (by omega) ?_
  refine kx_st 0 (pc' := 43) (L' := [some (.int 6), some (.int 1), some (.int 6), some (.int 0), some (.int 25)]) (st' := [.int 0]) (h' := kv_wd g w) rfl ?_
  refine kx_st 1 (pc' := 53) (L' := [some (.int 6), some (.int 1), some (.int 6), some (.int 0), some (.int 25)]) (st' := []) (h' := kv_wd g w) rfl ?_
  refine kx_st 1 (pc' := 54) (L' := [some (.int 6), some (.int 1), some (.int 6), some (.int 0), some (.int 25)]) (st' := [.int 6]) (h' := kv_wd g w) rfl ?_
  refine kx_call (z := 28) (as := [.int 6]) (rest := []) (v := some (.int 3)) (h1 := kv_wd g w) rfl (ev_above_6 (d := d) hE1) ?_
  refine kx_st 0 (pc' := 57) (L' := [some (.int 6), some (.int 1), some (.int 6), some (.int 0), some (.int 25)]) (st' := [.int 3]) (h' := kv_wd g w) rfl ?_
  refine kx_st 5 (pc' := 8) (L' := [some (.int 6), some (.int 1), some (.int 3), some (.int 1), some (.int 25)]) (st' := [.ref 1003, .int 1]) (h' := kv_wd g w) rfl ?_
  refine kx_aE (n := 28) rfl hE3 (by decide) ?_
  refine kx_st 1 (pc' := 12) (L' := [some (.int 6), some (.int 1), some (.int 3), some (.int 1), some (.int 25)]) (st' := []) (h' := kv_wd g w) rfl ?_
  refine kx_st 1 (pc' := 13) (L' := [some (.int 6), some (.int 1), some (.int 3), some (.int 1), some (.int 25)]) (st' := [.int 3]) (h' := kv_wd g w) rfl ?_
  refine kx_st 1 (pc' := 16) (L' := [some (.int 6), some (.int 1), some (.int 3), some (.int 1), some (.int 25)]) (st' := []) (h' := kv_wd g w) rfl ?_
  refine kx_st 7 (pc' := 25) (L' := [some (.int 6), some (.int 1), some (.int 3), some (.int 1), some (.int 13)]) (st' := [.int 13]) (h' := kv_wd g w) rfl ?_
  refine kx_st 1 (pc' := 28) (L' := [some (.int 6), some (.int 1), some (.int 3), some (.int 1), some (.int 13)]) (st' := []) (h' := kv_wd g w) rfl ?_
  refine kx_st 2 (pc' := 33) (L' := [some (.int 6), some (.int 1), some (.int 3), some (.int 1), some (.int 13)]) (st' := [.ref 1003, .int 13]) (h' := kv_wd g w) rfl ?_
  refine kx_aE (n := 28) rfl hE3 (by decide) ?_
  refine kx_st 1 (pc' := 37) (L' := [some (.int 6), some (.int 1), some (.int 3), some (.int 1), some (.int 13)]) (st' := []) (h' := kv_wd g w) rfl ?_
  refine kx_st 2 (pc' := 42) (L' := [some (.int 6), some (.int 1), some (.int 3), some (.int 1), some (.int 13)]) (st' := [.int 13, .ref 1003]) (h' := kv_wd g w) rfl ?_
  refine kx_iE (k := 13) (f := kv_BO) rfl hE3 (by decide) rfl (by decide) (by omega) ?_
  refine kx_st 0 (pc' := 43) (L' := [some (.int 6), some (.int 1), some (.int 3), some (.int 1), some (.int 13)]) (st' := [.int 0]) (h' := kv_wd g w) rfl ?_
  refine kx_st 1 (pc' := 53) (L' := [some (.int 6), some (.int 1), some (.int 3), some (.int 1), some (.int 13)]) (st' := []) (h' := kv_wd g w) rfl ?_
  refine kx_st 1 (pc' := 54) (L' := [some (.int 6), some (.int 1), some (.int 3), some (.int 1), some (.int 13)]) (st' := [.int 3]) (h' := kv_wd g w) rfl ?_
  refine kx_call (z := 28) (as := [.int 3]) (rest := []) (v := some (.int 0)) (h1 := kv_wd g w) rfl (ev_above_3 (d := d) hE1) ?_
  refine kx_st 0 (pc' := 57) (L' := [some (.int 6), some (.int 1), some (.int 3), some (.int 1), some (.int 13)]) (st' := [.int 0]) (h' := kv_wd g w) rfl ?_
  refine kx_st 5 (pc' := 8) (L' := [some (.int 6), some (.int 1), some (.int 0), some (.int 2), some (.int 13)]) (st' := [.ref 1003, .int 2]) (h' := kv_wd g w) rfl ?_
  refine kx_aE (n := 28) rfl hE3 (by decide) ?_
  refine kx_st 1 (pc' := 12) (L' := [some (.int 6), some (.int 1), some (.int 0), some (.int 2), some (.int 13)]) (st' := []) (h' := kv_wd g w) rfl ?_
  refine kx_st 1 (pc' := 13) (L' := [some (.int 6), some (.int 1), some (.int 0), some (.int 2), some (.int 13)]) (st' := [.int 0]) (h' := kv_wd g w) rfl ?_
  refine kx_st 1 (pc' := 16) (L' := [some (.int 6), some (.int 1), some (.int 0), some (.int 2), some (.int 13)]) (st' := []) (h' := kv_wd g w) rfl ?_
  refine kx_st 7 (pc' := 25) (L' := [some (.int 6), some (.int 1), some (.int 0), some (.int 2), some (.int 1)]) (st' := [.int 1]) (h' := kv_wd g w) rfl ?_
  refine kx_st 1 (pc' := 28) (L' := [some (.int 6), some (.int 1), some (.int 0), some (.int 2), some (.int 1)]) (st' := []) (h' := kv_wd g w) rfl ?_
  refine kx_st 2 (pc' := 33) (L' := [some (.int 6), some (.int 1), some (.int 0), some (.int 2), some (.int 1)]) (st' := [.ref 1003, .int 1]) (h' := kv_wd g w) rfl ?_
  refine kx_aE (n := 28) rfl hE3 (by decide) ?_
  refine kx_st 1 (pc' := 37) (L' := [some (.int 6), some (.int 1), some (.int 0), some (.int 2), some (.int 1)]) (st' := []) (h' := kv_wd g w) rfl ?_
  refine kx_st 2 (pc' := 42) (L' := [some (.int 6), some (.int 1), some (.int 0), some (.int 2), some (.int 1)]) (st' := [.int 1, .ref 1003]) (h' := kv_wd g w) rfl ?_
  refine kx_iE (k := 1) (f := kv_BO) rfl hE3 (by decide) rfl (by decide) (by omega) ?_
  refine kx_st 0 (pc' := 43) (L' := [some (.int 6), some (.int 1), some (.int 0), some (.int 2), some (.int 1)]) (st' := [.int 11]) (h' := kv_wd g w) rfl ?_
  refine kx_st 1 (pc' := 46) (L' := [some (.int 6), some (.int 1), some (.int 0), some (.int 2), some (.int 1)]) (st' := []) (h' := kv_wd g w) rfl ?_
  refine kx_st 2 (pc' := 51) (L' := [some (.int 6), some (.int 1), some (.int 0), some (.int 2), some (.int 1)]) (st' := [.int 1, .ref 1003]) (h' := kv_wd g w) rfl ?_
  refine kx_iE (k := 1) (f := kv_BO) rfl hE3 (by decide) rfl (by decide) (by omega) ?_
  refine kx_st 0 (pc' := 52) (L' := [some (.int 6), some (.int 1), some (.int 0), some (.int 2), some (.int 1)]) (st' := [.int 11]) (h' := kv_wd g w) rfl ?_
  refine kx_ret (v := some (.int 11)) rfl ?_
  exact ⟨rfl, rfl⟩
set_option maxRecDepth 100000 in
theorem ev_bodyOf_6_2 {E : kv_V} {d : Nat} {g : kv_S} {w : kv_W} (hE1 : E 1001 = some (0, 7, kv_KA)) (hE3 : E 1003 = some (0, 28, kv_BO)) : kv_ev E (d + 2) 75 [.int 6, .int 2] (kv_wd g w) (some (.int 70)) (kv_wd g w) := by
  refine kx_ev (d := d + 1) (by decide) (Nat.le_of_ble_eq_true rfl) ?_
  refine kx_st 0 (pc' := 0) (L' := [some (.int 6), some (.int 2), none, none, none]) (st' := []) (h' := kv_wd g w) rfl ?_
  refine kx_st 6 (pc' := 8) (L' := [some (.int 6), some (.int 2), some (.int 6), some (.int 0), none]) (st' := [.ref 1003, .int 0]) (h' := kv_wd g w) rfl ?_
  refine kx_aE (n := 28) rfl hE3 (by decide) ?_
  refine kx_st 1 (pc' := 12) (L' := [some (.int 6), some (.int 2), some (.int 6), some (.int 0), none]) (st' := []) (h' := kv_wd g w) rfl ?_
  refine kx_st 1 (pc' := 13) (L' := [some (.int 6), some (.int 2), some (.int 6), some (.int 0), none]) (st' := [.int 6]) (h' := kv_wd g w) rfl ?_
  refine kx_st 1 (pc' := 16) (L' := [some (.int 6), some (.int 2), some (.int 6), some (.int 0), none]) (st' := []) (h' := kv_wd g w) rfl ?_
  refine kx_st 7 (pc' := 25) (L' := [some (.int 6), some (.int 2), some (.int 6), some (.int 0), some (.int 26)]) (st' := [.int 26]) (h' := kv_wd g w) rfl ?_
  refine kx_st 1 (pc' := 28) (L' := [some (.int 6), some (.int 2), some (.int 6), some (.int 0), some (.int 26)]) (st' := []) (h' := kv_wd g w) rfl ?_
  refine kx_st 2 (pc' := 33) (L' := [some (.int 6), some (.int 2), some (.int 6), some (.int 0), some (.int 26)]) (st' := [.ref 1003, .int 26]) (h' := kv_wd g w) rfl ?_
  refine kx_aE (n := 28) rfl hE3 (by decide) ?_
  refine kx_st 1 (pc' := 37) (L' := [some (.int 6), some (.int 2), some (.int 6), some (.int 0), some (.int 26)]) (st' := []) (h' := kv_wd g w) rfl ?_
  refine kx_st 2 (pc' := 42) (L' := [some (.int 6), some (.int 2), some (.int 6), some (.int 0), some (.int 26)]) (st' := [.int 26, .ref 1003]) (h' := kv_wd g w) rfl ?_
  refine kx_iE (k := 26) (f := kv_BO) rfl hE3 (by decide) rfl (by decide) (by omega) ?_
  refine kx_st 0 (pc' := 43) (L' := [some (.int 6), some (.int 2), some (.int 6), some (.int 0), some (.int 26)]) (st' := [.int 70]) (h' := kv_wd g w) rfl ?_
  refine kx_st 1 (pc' := 46) (L' := [some (.int 6), some (.int 2), some (.int 6), some (.int 0), some (.int 26)]) (st' := []) (h' := kv_wd g w) rfl ?_
  refine kx_st 2 (pc' := 51) (L' := [some (.int 6), some (.int 2), some (.int 6), some (.int 0), some (.int 26)]) (st' := [.int 26, .ref 1003]) (h' := kv_wd g w) rfl ?_
  refine kx_iE (k := 26) (f := kv_BO) rfl hE3 (by decide) rfl (by decide) (by omega) ?_
  refine kx_st 0 (pc' := 52) (L' := [some (.int 6), some (.int 2), some (.int 6), some (.int 0), some (.int 26)]) (st' := [.int 70]) (h' := kv_wd g w) rfl ?_
  refine kx_ret (v := some (.int 70)) rfl ?_
  exact ⟨rfl, rfl⟩
set_option maxRecDepth 100000 in
theorem ev_bodyOf_6_3 {E : kv_V} {d : Nat} {g : kv_S} {w : kv_W} (hE1 : E 1001 = some (0, 7, kv_KA)) (hE3 : E 1003 = some (0, 28, kv_BO)) : kv_ev E (d + 2) 75 [.int 6, .int 3] (kv_wd g w) (some (.int 71)) (kv_wd g w) := by
  refine kx_ev (d := d + 1) (by decide) (Nat.le_of_ble_eq_true rfl) ?_
  refine kx_st 0 (pc' := 0) (L' := [some (.int 6), some (.int 3), none, none, none]) (st' := []) (h' := kv_wd g w) rfl ?_
  refine kx_st 6 (pc' := 8) (L' := [some (.int 6), some (.int 3), some (.int 6), some (.int 0), none]) (st' := [.ref 1003, .int 0]) (h' := kv_wd g w) rfl ?_
  refine kx_aE (n := 28) rfl hE3 (by decide) ?_
  refine kx_st 1 (pc' := 12) (L' := [some (.int 6), some (.int 3), some (.int 6), some (.int 0), none]) (st' := []) (h' := kv_wd g w) rfl ?_
  refine kx_st 1 (pc' := 13) (L' := [some (.int 6), some (.int 3), some (.int 6), some (.int 0), none]) (st' := [.int 6]) (h' := kv_wd g w) rfl ?_
  refine kx_st 1 (pc' := 16) (L' := [some (.int 6), some (.int 3), some (.int 6), some (.int 0), none]) (st' := []) (h' := kv_wd g w) rfl ?_
  refine kx_st 7 (pc' := 25) (L' := [some (.int 6), some (.int 3), some (.int 6), some (.int 0), some (.int 27)]) (st' := [.int 27]) (h' := kv_wd g w) rfl ?_
  refine kx_st 1 (pc' := 28) (L' := [some (.int 6), some (.int 3), some (.int 6), some (.int 0), some (.int 27)]) (st' := []) (h' := kv_wd g w) rfl ?_
  refine kx_st 2 (pc' := 33) (L' := [some (.int 6), some (.int 3), some (.int 6), some (.int 0), some (.int 27)]) (st' := [.ref 1003, .int 27]) (h' := kv_wd g w) rfl ?_
  refine kx_aE (n := 28) rfl hE3 (by decide) ?_
  refine kx_st 1 (pc' := 37) (L' := [some (.int 6), some (.int 3), some (.int 6), some (.int 0), some (.int 27)]) (st' := []) (h' := kv_wd g w) rfl ?_
  refine kx_st 2 (pc' := 42) (L' := [some (.int 6), some (.int 3), some (.int 6), some (.int 0), some (.int 27)]) (st' := [.int 27, .ref 1003]) (h' := kv_wd g w) rfl ?_
  refine kx_iE (k := 27) (f := kv_BO) rfl hE3 (by decide) rfl (by decide) (by omega) ?_
  refine kx_st 0 (pc' := 43) (L' := [some (.int 6), some (.int 3), some (.int 6), some (.int 0), some (.int 27)]) (st' := [.int 71]) (h' := kv_wd g w) rfl ?_
  refine kx_st 1 (pc' := 46) (L' := [some (.int 6), some (.int 3), some (.int 6), some (.int 0), some (.int 27)]) (st' := []) (h' := kv_wd g w) rfl ?_
  refine kx_st 2 (pc' := 51) (L' := [some (.int 6), some (.int 3), some (.int 6), some (.int 0), some (.int 27)]) (st' := [.int 27, .ref 1003]) (h' := kv_wd g w) rfl ?_
  refine kx_iE (k := 27) (f := kv_BO) rfl hE3 (by decide) rfl (by decide) (by omega) ?_
  refine kx_st 0 (pc' := 52) (L' := [some (.int 6), some (.int 3), some (.int 6), some (.int 0), some (.int 27)]) (st' := [.int 71]) (h' := kv_wd g w) rfl ?_
  refine kx_ret (v := some (.int 71)) rfl ?_
  exact ⟨rfl, rfl⟩
set_option maxRecDepth 100000 in
theorem ev_run_0_10 {E : kv_V} {d : Nat} {g : kv_S} {w : kv_W} (hE1 : E 1001 = some (0, 7, kv_KA)) (hE3 : E 1003 = some (0, 28, kv_BO)) (N M : Int32) (c : Nat) (hs : kx_VS g c N M 0) (h40 : c + 1 ≤ 40) (x : Int32) (dp : Nat) (hd : dp + 0 ≤ 20) : kv_ev E (d + 2) 79 [.ref 53, .int 10, .int x, .int (nI dp)] (kv_wd g w) (some (.int (x + N))) (kv_wd (kx_nx g c [10]) w) := by
  refine kx_ev (d := d + 1) (by decide) (Nat.le_of_ble_eq_true rfl) ?_
  refine kx_st 0 (pc' := 0) (L' := [some (.ref 53), some (.int 10), some (.int x), some (.int (nI dp))]) (st' := []) (h' := kv_wd g w) rfl ?_
  refine kx_st 2 (pc' := 3) (L' := [some (.ref 53), some (.int 10), some (.int x), some (.int (nI dp))]) (st' := [.int 20, .int (nI dp)]) (h' := kv_wd g w) rfl ?_
  refine kx_bi (t := 8) rfl rfl (fun (h3 : nI dp ≤ 20) => ?_) (fun (h3 : ¬ (nI dp ≤ 20)) => ?_)
  · refine kx_st 2 (pc' := 10) (L' := [some (.ref 53), some (.int 10), some (.int x), some (.int (nI dp))]) (st' := [.int 10, .ref 53]) (h' := kv_wd g w) rfl ?_
    refine kx_call (z := 76) (as := [.ref 53, .int 10]) (rest := []) (v := none) (h1 := kv_wd (kx_nx g c [10]) w) rfl (ev_note (d := d + 0) c hs.1 (by omega) 10) ?_
    refine kx_st 0 (pc' := 13) (L' := [some (.ref 53), some (.int 10), some (.int x), some (.int (nI dp))]) (st' := []) (h' := kv_wd (kx_nx g c [10]) w) rfl ?_
    refine kx_st 6 (pc' := 118) (L' := [some (.ref 53), some (.int 10), some (.int x), some (.int (nI dp))]) (st' := [.int (x + ((kx_nx g c [10]) 53 2))]) (h' := kv_wd (kx_nx g c [10]) w) rfl ?_
    refine kx_ret (v := some (.int (x + ((kx_nx g c [10]) 53 2)))) rfl ?_
    exact ⟨by rw [show (kx_nx g c [10]) 53 2 = N from (kx_VS_nx [10] hs).2.1], rfl⟩
  · exact absurd (nI_le (a := dp) (b := 20) (by omega) (by omega)) h3
set_option maxRecDepth 100000 in
theorem ev_own_0_0 {E : kv_V} {d : Nat} {g : kv_S} {w : kv_W} (hE1 : E 1001 = some (0, 7, kv_KA)) (hE3 : E 1003 = some (0, 28, kv_BO)) (N M : Int32) (c : Nat) (hs : kx_VS g c N M 0) (h40 : c + 1 ≤ 40) (x : Int32) (dp : Nat) (hd : dp + 1 ≤ 20) : kv_ev E (d + 3) 77 [.ref 53, .int 0, .int x, .int (nI dp)] (kv_wd g w) (some (.int (x + N))) (kv_wd (kx_nx g c [10]) w) := by
  refine kx_ev (d := d + 2) (by decide) (Nat.le_of_ble_eq_true rfl) ?_
  refine kx_st 0 (pc' := 0) (L' := [some (.ref 53), some (.int 0), some (.int x), some (.int (nI dp))]) (st' := []) (h' := kv_wd g w) rfl ?_
  refine kx_st 4 (pc' := 6) (L' := [some (.ref 53), some (.int 0), some (.int x), some (.int (nI dp))]) (st' := [.int 0, .int (g 53 4), .ref 53]) (h' := kv_wd g w) rfl ?_
  refine kx_call (z := 75) (as := [.int (g 53 4), .int 0]) (rest := [.ref 53]) (v := some (.int 10)) (h1 := kv_wd g w) rfl (by rw [show g 53 4 = 0 from hs.2.2.2]; exact ev_bodyOf_0_0 (d := d + 0) hE1 hE3) ?_
  refine kx_st 0 (pc' := 9) (L' := [some (.ref 53), some (.int 0), some (.int x), some (.int (nI dp))]) (st' := [.int 10, .ref 53]) (h' := kv_wd g w) rfl ?_
  refine kx_st 4 (pc' := 13) (L' := [some (.ref 53), some (.int 0), some (.int x), some (.int (nI dp))]) (st' := [.int ((nI dp) + 1), .int x, .int 10, .ref 53]) (h' := kv_wd g w) rfl ?_
  refine kx_call (z := 79) (as := [.ref 53, .int 10, .int x, .int ((nI dp) + 1)]) (rest := []) (v := some (.int (x + N))) (h1 := kv_wd (kx_nx g c [10]) w) rfl (by rw [← nI_succ]; exact ev_run_0_10 (d := d + 0) hE1 hE3 N M c hs h40 x (dp + 1) (by omega)) ?_
  refine kx_st 0 (pc' := 16) (L' := [some (.ref 53), some (.int 0), some (.int x), some (.int (nI dp))]) (st' := [.int (x + N)]) (h' := kv_wd (kx_nx g c [10]) w) rfl ?_
  refine kx_ret (v := some (.int (x + N))) rfl ?_
  exact ⟨rfl, rfl⟩
set_option maxRecDepth 100000 in
theorem ev_run_0_11 {E : kv_V} {d : Nat} {g : kv_S} {w : kv_W} (hE1 : E 1001 = some (0, 7, kv_KA)) (hE3 : E 1003 = some (0, 28, kv_BO)) (N M : Int32) (c : Nat) (hs : kx_VS g c N M 0) (h40 : c + 2 ≤ 40) (x : Int32) (dp : Nat) (hd : dp + 1 ≤ 20) : kv_ev E (d + 4) 79 [.ref 53, .int 11, .int x, .int (nI dp)] (kv_wd g w) (some (.int ((x + N) * 2))) (kv_wd (kx_nx g c [11, 10]) w) := by
  refine kx_ev (d := d + 3) (by decide) (Nat.le_of_ble_eq_true rfl) ?_
  refine kx_st 0 (pc' := 0) (L' := [some (.ref 53), some (.int 11), some (.int x), some (.int (nI dp))]) (st' := []) (h' := kv_wd g w) rfl ?_
  refine kx_st 2 (pc' := 3) (L' := [some (.ref 53), some (.int 11), some (.int x), some (.int (nI dp))]) (st' := [.int 20, .int (nI dp)]) (h' := kv_wd g w) rfl ?_
  refine kx_bi (t := 8) rfl rfl (fun (h3 : nI dp ≤ 20) => ?_) (fun (h3 : ¬ (nI dp ≤ 20)) => ?_)
  · refine kx_st 2 (pc' := 10) (L' := [some (.ref 53), some (.int 11), some (.int x), some (.int (nI dp))]) (st' := [.int 11, .ref 53]) (h' := kv_wd g w) rfl ?_
    refine kx_call (z := 76) (as := [.ref 53, .int 11]) (rest := []) (v := none) (h1 := kv_wd (kx_nx g c [11]) w) rfl (ev_note (d := d + 2) c hs.1 (by omega) 11) ?_
    refine kx_st 0 (pc' := 13) (L' := [some (.ref 53), some (.int 11), some (.int x), some (.int (nI dp))]) (st' := []) (h' := kv_wd (kx_nx g c [11]) w) rfl ?_
    refine kx_st 6 (pc' := 123) (L' := [some (.ref 53), some (.int 11), some (.int x), some (.int (nI dp))]) (st' := [.int (nI dp), .int x, .int 0, .ref 53]) (h' := kv_wd (kx_nx g c [11]) w) rfl ?_
    refine kx_call (z := 77) (as := [.ref 53, .int 0, .int x, .int (nI dp)]) (rest := []) (v := some (.int (x + N))) (h1 := kv_wd (kx_nx g c [11, 10]) w) rfl (by rw [← show kx_nx (kx_nx g c [11]) (c + 1) [10] = kx_nx g c [11, 10] from kx_nx_app g c [11] [10]]; exact ev_own_0_0 (d := d + 0) (g := kx_nx g c [11]) hE1 hE3 N M (c + 1) (kx_VS_nx [11] hs) (by omega) x dp (by omega)) ?_
    refine kx_st 0 (pc' := 126) (L' := [some (.ref 53), some (.int 11), some (.int x), some (.int (nI dp))]) (st' := [.int (x + N)]) (h' := kv_wd (kx_nx g c [11, 10]) w) rfl ?_
    refine kx_st 2 (pc' := 128) (L' := [some (.ref 53), some (.int 11), some (.int x), some (.int (nI dp))]) (st' := [.int ((x + N) * 2)]) (h' := kv_wd (kx_nx g c [11, 10]) w) rfl ?_
    refine kx_ret (v := some (.int ((x + N) * 2))) rfl ?_
    exact ⟨rfl, rfl⟩
  · exact absurd (nI_le (a := dp) (b := 20) (by omega) (by omega)) h3
set_option maxRecDepth 100000 in
theorem ev_own_0_1 {E : kv_V} {d : Nat} {g : kv_S} {w : kv_W} (hE1 : E 1001 = some (0, 7, kv_KA)) (hE3 : E 1003 = some (0, 28, kv_BO)) (N M : Int32) (c : Nat) (hs : kx_VS g c N M 0) (h40 : c + 2 ≤ 40) (x : Int32) (dp : Nat) (hd : dp + 2 ≤ 20) : kv_ev E (d + 5) 77 [.ref 53, .int 1, .int x, .int (nI dp)] (kv_wd g w) (some (.int ((x + N) * 2))) (kv_wd (kx_nx g c [11, 10]) w) := by
  refine kx_ev (d := d + 4) (by decide) (Nat.le_of_ble_eq_true rfl) ?_
  refine kx_st 0 (pc' := 0) (L' := [some (.ref 53), some (.int 1), some (.int x), some (.int (nI dp))]) (st' := []) (h' := kv_wd g w) rfl ?_
  refine kx_st 4 (pc' := 6) (L' := [some (.ref 53), some (.int 1), some (.int x), some (.int (nI dp))]) (st' := [.int 1, .int (g 53 4), .ref 53]) (h' := kv_wd g w) rfl ?_
  refine kx_call (z := 75) (as := [.int (g 53 4), .int 1]) (rest := [.ref 53]) (v := some (.int 11)) (h1 := kv_wd g w) rfl (by rw [show g 53 4 = 0 from hs.2.2.2]; exact ev_bodyOf_0_1 (d := d + 2) hE1 hE3) ?_
  refine kx_st 0 (pc' := 9) (L' := [some (.ref 53), some (.int 1), some (.int x), some (.int (nI dp))]) (st' := [.int 11, .ref 53]) (h' := kv_wd g w) rfl ?_
  refine kx_st 4 (pc' := 13) (L' := [some (.ref 53), some (.int 1), some (.int x), some (.int (nI dp))]) (st' := [.int ((nI dp) + 1), .int x, .int 11, .ref 53]) (h' := kv_wd g w) rfl ?_
  refine kx_call (z := 79) (as := [.ref 53, .int 11, .int x, .int ((nI dp) + 1)]) (rest := []) (v := some (.int ((x + N) * 2))) (h1 := kv_wd (kx_nx g c [11, 10]) w) rfl (by rw [← nI_succ]; exact ev_run_0_11 (d := d + 0) hE1 hE3 N M c hs h40 x (dp + 1) (by omega)) ?_
  refine kx_st 0 (pc' := 16) (L' := [some (.ref 53), some (.int 1), some (.int x), some (.int (nI dp))]) (st' := [.int ((x + N) * 2)]) (h' := kv_wd (kx_nx g c [11, 10]) w) rfl ?_
  refine kx_ret (v := some (.int ((x + N) * 2))) rfl ?_
  exact ⟨rfl, rfl⟩
set_option maxRecDepth 100000 in
theorem ev_run_0_12 {E : kv_V} {d : Nat} {g : kv_S} {w : kv_W} (hE1 : E 1001 = some (0, 7, kv_KA)) (hE3 : E 1003 = some (0, 28, kv_BO)) (N M : Int32) (c : Nat) (hs : kx_VS g c N M 0) (h40 : c + 1 ≤ 40) (x : Int32) (dp : Nat) (hd : dp + 0 ≤ 20) : kv_ev E (d + 2) 79 [.ref 53, .int 12, .int x, .int (nI dp)] (kv_wd g w) (some (.int (x - M))) (kv_wd (kx_nx g c [12]) w) := by
  refine kx_ev (d := d + 1) (by decide) (Nat.le_of_ble_eq_true rfl) ?_
  refine kx_st 0 (pc' := 0) (L' := [some (.ref 53), some (.int 12), some (.int x), some (.int (nI dp))]) (st' := []) (h' := kv_wd g w) rfl ?_
  refine kx_st 2 (pc' := 3) (L' := [some (.ref 53), some (.int 12), some (.int x), some (.int (nI dp))]) (st' := [.int 20, .int (nI dp)]) (h' := kv_wd g w) rfl ?_
  refine kx_bi (t := 8) rfl rfl (fun (h3 : nI dp ≤ 20) => ?_) (fun (h3 : ¬ (nI dp ≤ 20)) => ?_)
  · refine kx_st 2 (pc' := 10) (L' := [some (.ref 53), some (.int 12), some (.int x), some (.int (nI dp))]) (st' := [.int 12, .ref 53]) (h' := kv_wd g w) rfl ?_
    refine kx_call (z := 76) (as := [.ref 53, .int 12]) (rest := []) (v := none) (h1 := kv_wd (kx_nx g c [12]) w) rfl (ev_note (d := d + 0) c hs.1 (by omega) 12) ?_
    refine kx_st 0 (pc' := 13) (L' := [some (.ref 53), some (.int 12), some (.int x), some (.int (nI dp))]) (st' := []) (h' := kv_wd (kx_nx g c [12]) w) rfl ?_
    refine kx_st 6 (pc' := 135) (L' := [some (.ref 53), some (.int 12), some (.int x), some (.int (nI dp))]) (st' := [.int (x - ((kx_nx g c [12]) 53 3))]) (h' := kv_wd (kx_nx g c [12]) w) rfl ?_
    refine kx_ret (v := some (.int (x - ((kx_nx g c [12]) 53 3)))) rfl ?_
    exact ⟨by rw [show (kx_nx g c [12]) 53 3 = M from (kx_VS_nx [12] hs).2.2.1], rfl⟩
  · exact absurd (nI_le (a := dp) (b := 20) (by omega) (by omega)) h3
set_option maxRecDepth 100000 in
theorem ev_own_0_2 {E : kv_V} {d : Nat} {g : kv_S} {w : kv_W} (hE1 : E 1001 = some (0, 7, kv_KA)) (hE3 : E 1003 = some (0, 28, kv_BO)) (N M : Int32) (c : Nat) (hs : kx_VS g c N M 0) (h40 : c + 1 ≤ 40) (x : Int32) (dp : Nat) (hd : dp + 1 ≤ 20) : kv_ev E (d + 3) 77 [.ref 53, .int 2, .int x, .int (nI dp)] (kv_wd g w) (some (.int (x - M))) (kv_wd (kx_nx g c [12]) w) := by
  refine kx_ev (d := d + 2) (by decide) (Nat.le_of_ble_eq_true rfl) ?_
  refine kx_st 0 (pc' := 0) (L' := [some (.ref 53), some (.int 2), some (.int x), some (.int (nI dp))]) (st' := []) (h' := kv_wd g w) rfl ?_
  refine kx_st 4 (pc' := 6) (L' := [some (.ref 53), some (.int 2), some (.int x), some (.int (nI dp))]) (st' := [.int 2, .int (g 53 4), .ref 53]) (h' := kv_wd g w) rfl ?_
  refine kx_call (z := 75) (as := [.int (g 53 4), .int 2]) (rest := [.ref 53]) (v := some (.int 12)) (h1 := kv_wd g w) rfl (by rw [show g 53 4 = 0 from hs.2.2.2]; exact ev_bodyOf_0_2 (d := d + 0) hE1 hE3) ?_
  refine kx_st 0 (pc' := 9) (L' := [some (.ref 53), some (.int 2), some (.int x), some (.int (nI dp))]) (st' := [.int 12, .ref 53]) (h' := kv_wd g w) rfl ?_
  refine kx_st 4 (pc' := 13) (L' := [some (.ref 53), some (.int 2), some (.int x), some (.int (nI dp))]) (st' := [.int ((nI dp) + 1), .int x, .int 12, .ref 53]) (h' := kv_wd g w) rfl ?_
  refine kx_call (z := 79) (as := [.ref 53, .int 12, .int x, .int ((nI dp) + 1)]) (rest := []) (v := some (.int (x - M))) (h1 := kv_wd (kx_nx g c [12]) w) rfl (by rw [← nI_succ]; exact ev_run_0_12 (d := d + 0) hE1 hE3 N M c hs h40 x (dp + 1) (by omega)) ?_
  refine kx_st 0 (pc' := 16) (L' := [some (.ref 53), some (.int 2), some (.int x), some (.int (nI dp))]) (st' := [.int (x - M)]) (h' := kv_wd (kx_nx g c [12]) w) rfl ?_
  refine kx_ret (v := some (.int (x - M))) rfl ?_
  exact ⟨rfl, rfl⟩
set_option maxRecDepth 100000 in
theorem ev_run_0_13 {E : kv_V} {d : Nat} {g : kv_S} {w : kv_W} (hE1 : E 1001 = some (0, 7, kv_KA)) (hE3 : E 1003 = some (0, 28, kv_BO)) (N M : Int32) (c : Nat) (hs : kx_VS g c N M 0) (h40 : c + 4 ≤ 40) (x : Int32) (dp : Nat) (hd : dp + 2 ≤ 20) : kv_ev E (d + 6) 79 [.ref 53, .int 13, .int x, .int (nI dp)] (kv_wd g w) (some (.int (((x + N) * 2) ^^^ (x - M)))) (kv_wd (kx_nx g c [13, 11, 10, 12]) w) := by
  refine kx_ev (d := d + 5) (by decide) (Nat.le_of_ble_eq_true rfl) ?_
  refine kx_st 0 (pc' := 0) (L' := [some (.ref 53), some (.int 13), some (.int x), some (.int (nI dp))]) (st' := []) (h' := kv_wd g w) rfl ?_
  refine kx_st 2 (pc' := 3) (L' := [some (.ref 53), some (.int 13), some (.int x), some (.int (nI dp))]) (st' := [.int 20, .int (nI dp)]) (h' := kv_wd g w) rfl ?_
  refine kx_bi (t := 8) rfl rfl (fun (h3 : nI dp ≤ 20) => ?_) (fun (h3 : ¬ (nI dp ≤ 20)) => ?_)
  · refine kx_st 2 (pc' := 10) (L' := [some (.ref 53), some (.int 13), some (.int x), some (.int (nI dp))]) (st' := [.int 13, .ref 53]) (h' := kv_wd g w) rfl ?_
    refine kx_call (z := 76) (as := [.ref 53, .int 13]) (rest := []) (v := none) (h1 := kv_wd (kx_nx g c [13]) w) rfl (ev_note (d := d + 4) c hs.1 (by omega) 13) ?_
    refine kx_st 0 (pc' := 13) (L' := [some (.ref 53), some (.int 13), some (.int x), some (.int (nI dp))]) (st' := []) (h' := kv_wd (kx_nx g c [13]) w) rfl ?_
    refine kx_st 6 (pc' := 140) (L' := [some (.ref 53), some (.int 13), some (.int x), some (.int (nI dp))]) (st' := [.int (nI dp), .int x, .int 1, .ref 53]) (h' := kv_wd (kx_nx g c [13]) w) rfl ?_
    refine kx_call (z := 77) (as := [.ref 53, .int 1, .int x, .int (nI dp)]) (rest := []) (v := some (.int ((x + N) * 2))) (h1 := kv_wd (kx_nx g c [13, 11, 10]) w) rfl (by rw [← show kx_nx (kx_nx g c [13]) (c + 1) [11, 10] = kx_nx g c [13, 11, 10] from kx_nx_app g c [13] [11, 10]]; exact ev_own_0_1 (d := d + 0) (g := kx_nx g c [13]) hE1 hE3 N M (c + 1) (kx_VS_nx [13] hs) (by omega) x dp (by omega)) ?_
    refine kx_st 0 (pc' := 143) (L' := [some (.ref 53), some (.int 13), some (.int x), some (.int (nI dp))]) (st' := [.int ((x + N) * 2)]) (h' := kv_wd (kx_nx g c [13, 11, 10]) w) rfl ?_
    refine kx_st 4 (pc' := 147) (L' := [some (.ref 53), some (.int 13), some (.int x), some (.int (nI dp))]) (st' := [.int (nI dp), .int x, .int 2, .ref 53, .int ((x + N) * 2)]) (h' := kv_wd (kx_nx g c [13, 11, 10]) w) rfl ?_
    refine kx_call (z := 77) (as := [.ref 53, .int 2, .int x, .int (nI dp)]) (rest := [.int ((x + N) * 2)]) (v := some (.int (x - M))) (h1 := kv_wd (kx_nx g c [13, 11, 10, 12]) w) rfl (by rw [← show kx_nx (kx_nx g c [13, 11, 10]) (c + 3) [12] = kx_nx g c [13, 11, 10, 12] from kx_nx_app g c [13, 11, 10] [12]]; exact ev_own_0_2 (d := d + 2) (g := kx_nx g c [13, 11, 10]) hE1 hE3 N M (c + 3) (kx_VS_nx [13, 11, 10] hs) (by omega) x dp (by omega)) ?_
    refine kx_st 0 (pc' := 150) (L' := [some (.ref 53), some (.int 13), some (.int x), some (.int (nI dp))]) (st' := [.int (x - M), .int ((x + N) * 2)]) (h' := kv_wd (kx_nx g c [13, 11, 10, 12]) w) rfl ?_
    refine kx_st 1 (pc' := 151) (L' := [some (.ref 53), some (.int 13), some (.int x), some (.int (nI dp))]) (st' := [.int (((x + N) * 2) ^^^ (x - M))]) (h' := kv_wd (kx_nx g c [13, 11, 10, 12]) w) rfl ?_
    refine kx_ret (v := some (.int (((x + N) * 2) ^^^ (x - M)))) rfl ?_
    exact ⟨rfl, rfl⟩
  · exact absurd (nI_le (a := dp) (b := 20) (by omega) (by omega)) h3
set_option maxRecDepth 100000 in
theorem ev_own_0_3 {E : kv_V} {d : Nat} {g : kv_S} {w : kv_W} (hE1 : E 1001 = some (0, 7, kv_KA)) (hE3 : E 1003 = some (0, 28, kv_BO)) (N M : Int32) (c : Nat) (hs : kx_VS g c N M 0) (h40 : c + 4 ≤ 40) (x : Int32) (dp : Nat) (hd : dp + 3 ≤ 20) : kv_ev E (d + 7) 77 [.ref 53, .int 3, .int x, .int (nI dp)] (kv_wd g w) (some (.int (((x + N) * 2) ^^^ (x - M)))) (kv_wd (kx_nx g c [13, 11, 10, 12]) w) := by
  refine kx_ev (d := d + 6) (by decide) (Nat.le_of_ble_eq_true rfl) ?_
  refine kx_st 0 (pc' := 0) (L' := [some (.ref 53), some (.int 3), some (.int x), some (.int (nI dp))]) (st' := []) (h' := kv_wd g w) rfl ?_
  refine kx_st 4 (pc' := 6) (L' := [some (.ref 53), some (.int 3), some (.int x), some (.int (nI dp))]) (st' := [.int 3, .int (g 53 4), .ref 53]) (h' := kv_wd g w) rfl ?_
  refine kx_call (z := 75) (as := [.int (g 53 4), .int 3]) (rest := [.ref 53]) (v := some (.int 13)) (h1 := kv_wd g w) rfl (by rw [show g 53 4 = 0 from hs.2.2.2]; exact ev_bodyOf_0_3 (d := d + 4) hE1 hE3) ?_
  refine kx_st 0 (pc' := 9) (L' := [some (.ref 53), some (.int 3), some (.int x), some (.int (nI dp))]) (st' := [.int 13, .ref 53]) (h' := kv_wd g w) rfl ?_
  refine kx_st 4 (pc' := 13) (L' := [some (.ref 53), some (.int 3), some (.int x), some (.int (nI dp))]) (st' := [.int ((nI dp) + 1), .int x, .int 13, .ref 53]) (h' := kv_wd g w) rfl ?_
  refine kx_call (z := 79) (as := [.ref 53, .int 13, .int x, .int ((nI dp) + 1)]) (rest := []) (v := some (.int (((x + N) * 2) ^^^ (x - M)))) (h1 := kv_wd (kx_nx g c [13, 11, 10, 12]) w) rfl (by rw [← nI_succ]; exact ev_run_0_13 (d := d + 0) hE1 hE3 N M c hs h40 x (dp + 1) (by omega)) ?_
  refine kx_st 0 (pc' := 16) (L' := [some (.ref 53), some (.int 3), some (.int x), some (.int (nI dp))]) (st' := [.int (((x + N) * 2) ^^^ (x - M))]) (h' := kv_wd (kx_nx g c [13, 11, 10, 12]) w) rfl ?_
  refine kx_ret (v := some (.int (((x + N) * 2) ^^^ (x - M)))) rfl ?_
  exact ⟨rfl, rfl⟩
set_option maxRecDepth 100000 in
theorem ev_run_1_10 {E : kv_V} {d : Nat} {g : kv_S} {w : kv_W} (hE1 : E 1001 = some (0, 7, kv_KA)) (hE3 : E 1003 = some (0, 28, kv_BO)) (N M : Int32) (c : Nat) (hs : kx_VS g c N M 1) (h40 : c + 1 ≤ 40) (x : Int32) (dp : Nat) (hd : dp + 0 ≤ 20) : kv_ev E (d + 2) 79 [.ref 53, .int 10, .int x, .int (nI dp)] (kv_wd g w) (some (.int (x + N))) (kv_wd (kx_nx g c [10]) w) := by
  refine kx_ev (d := d + 1) (by decide) (Nat.le_of_ble_eq_true rfl) ?_
  refine kx_st 0 (pc' := 0) (L' := [some (.ref 53), some (.int 10), some (.int x), some (.int (nI dp))]) (st' := []) (h' := kv_wd g w) rfl ?_
  refine kx_st 2 (pc' := 3) (L' := [some (.ref 53), some (.int 10), some (.int x), some (.int (nI dp))]) (st' := [.int 20, .int (nI dp)]) (h' := kv_wd g w) rfl ?_
  refine kx_bi (t := 8) rfl rfl (fun (h3 : nI dp ≤ 20) => ?_) (fun (h3 : ¬ (nI dp ≤ 20)) => ?_)
  · refine kx_st 2 (pc' := 10) (L' := [some (.ref 53), some (.int 10), some (.int x), some (.int (nI dp))]) (st' := [.int 10, .ref 53]) (h' := kv_wd g w) rfl ?_
    refine kx_call (z := 76) (as := [.ref 53, .int 10]) (rest := []) (v := none) (h1 := kv_wd (kx_nx g c [10]) w) rfl (ev_note (d := d + 0) c hs.1 (by omega) 10) ?_
    refine kx_st 0 (pc' := 13) (L' := [some (.ref 53), some (.int 10), some (.int x), some (.int (nI dp))]) (st' := []) (h' := kv_wd (kx_nx g c [10]) w) rfl ?_
    refine kx_st 6 (pc' := 118) (L' := [some (.ref 53), some (.int 10), some (.int x), some (.int (nI dp))]) (st' := [.int (x + ((kx_nx g c [10]) 53 2))]) (h' := kv_wd (kx_nx g c [10]) w) rfl ?_
    refine kx_ret (v := some (.int (x + ((kx_nx g c [10]) 53 2)))) rfl ?_
    exact ⟨by rw [show (kx_nx g c [10]) 53 2 = N from (kx_VS_nx [10] hs).2.1], rfl⟩
  · exact absurd (nI_le (a := dp) (b := 20) (by omega) (by omega)) h3
set_option maxRecDepth 100000 in
theorem ev_abv_1_1_0 {E : kv_V} {d : Nat} {g : kv_S} {w : kv_W} (hE1 : E 1001 = some (0, 7, kv_KA)) (hE3 : E 1003 = some (0, 28, kv_BO)) (N M : Int32) (c : Nat) (hs : kx_VS g c N M 1) (h40 : c + 1 ≤ 40) (x : Int32) (dp : Nat) (hd : dp + 1 ≤ 20) : kv_ev E (d + 3) 78 [.ref 53, .int 1, .int 0, .int x, .int (nI dp)] (kv_wd g w) (some (.int (x + N))) (kv_wd (kx_nx g c [10]) w) := by
  refine kx_ev (d := d + 2) (by decide) (Nat.le_of_ble_eq_true rfl) ?_
  refine kx_st 0 (pc' := 0) (L' := [some (.ref 53), some (.int 1), some (.int 0), some (.int x), some (.int (nI dp))]) (st' := []) (h' := kv_wd g w) rfl ?_
  refine kx_st 2 (pc' := 2) (L' := [some (.ref 53), some (.int 1), some (.int 0), some (.int x), some (.int (nI dp))]) (st' := [.int 1, .ref 53]) (h' := kv_wd g w) rfl ?_
  refine kx_call (z := 28) (as := [.int 1]) (rest := [.ref 53]) (v := some (.int 0)) (h1 := kv_wd g w) rfl (ev_above_1 (d := d + 1) hE1) ?_
  refine kx_st 0 (pc' := 5) (L' := [some (.ref 53), some (.int 1), some (.int 0), some (.int x), some (.int (nI dp))]) (st' := [.int 0, .ref 53]) (h' := kv_wd g w) rfl ?_
  refine kx_st 1 (pc' := 6) (L' := [some (.ref 53), some (.int 1), some (.int 0), some (.int x), some (.int (nI dp))]) (st' := [.int 0, .int 0, .ref 53]) (h' := kv_wd g w) rfl ?_
  refine kx_call (z := 75) (as := [.int 0, .int 0]) (rest := [.ref 53]) (v := some (.int 10)) (h1 := kv_wd g w) rfl (ev_bodyOf_0_0 (d := d + 0) hE1 hE3) ?_
  refine kx_st 0 (pc' := 9) (L' := [some (.ref 53), some (.int 1), some (.int 0), some (.int x), some (.int (nI dp))]) (st' := [.int 10, .ref 53]) (h' := kv_wd g w) rfl ?_
  refine kx_st 4 (pc' := 14) (L' := [some (.ref 53), some (.int 1), some (.int 0), some (.int x), some (.int (nI dp))]) (st' := [.int ((nI dp) + 1), .int x, .int 10, .ref 53]) (h' := kv_wd g w) rfl ?_
  refine kx_call (z := 79) (as := [.ref 53, .int 10, .int x, .int ((nI dp) + 1)]) (rest := []) (v := some (.int (x + N))) (h1 := kv_wd (kx_nx g c [10]) w) rfl (by rw [← nI_succ]; exact ev_run_1_10 (d := d + 0) hE1 hE3 N M c hs h40 x (dp + 1) (by omega)) ?_
  refine kx_st 0 (pc' := 17) (L' := [some (.ref 53), some (.int 1), some (.int 0), some (.int x), some (.int (nI dp))]) (st' := [.int (x + N)]) (h' := kv_wd (kx_nx g c [10]) w) rfl ?_
  refine kx_ret (v := some (.int (x + N))) rfl ?_
  exact ⟨rfl, rfl⟩
set_option maxRecDepth 100000 in
theorem ev_run_1_20 {E : kv_V} {d : Nat} {g : kv_S} {w : kv_W} (hE1 : E 1001 = some (0, 7, kv_KA)) (hE3 : E 1003 = some (0, 28, kv_BO)) (N M : Int32) (c : Nat) (hs : kx_VS g c N M 1) (h40 : c + 2 ≤ 40) (x : Int32) (dp : Nat) (hd : dp + 1 ≤ 20) : kv_ev E (d + 4) 79 [.ref 53, .int 20, .int x, .int (nI dp)] (kv_wd g w) (some (.int ((x + N) * 3))) (kv_wd (kx_nx g c [20, 10]) w) := by
  refine kx_ev (d := d + 3) (by decide) (Nat.le_of_ble_eq_true rfl) ?_
  refine kx_st 0 (pc' := 0) (L' := [some (.ref 53), some (.int 20), some (.int x), some (.int (nI dp))]) (st' := []) (h' := kv_wd g w) rfl ?_
  refine kx_st 2 (pc' := 3) (L' := [some (.ref 53), some (.int 20), some (.int x), some (.int (nI dp))]) (st' := [.int 20, .int (nI dp)]) (h' := kv_wd g w) rfl ?_
  refine kx_bi (t := 8) rfl rfl (fun (h3 : nI dp ≤ 20) => ?_) (fun (h3 : ¬ (nI dp ≤ 20)) => ?_)
  · refine kx_st 2 (pc' := 10) (L' := [some (.ref 53), some (.int 20), some (.int x), some (.int (nI dp))]) (st' := [.int 20, .ref 53]) (h' := kv_wd g w) rfl ?_
    refine kx_call (z := 76) (as := [.ref 53, .int 20]) (rest := []) (v := none) (h1 := kv_wd (kx_nx g c [20]) w) rfl (ev_note (d := d + 2) c hs.1 (by omega) 20) ?_
    refine kx_st 0 (pc' := 13) (L' := [some (.ref 53), some (.int 20), some (.int x), some (.int (nI dp))]) (st' := []) (h' := kv_wd (kx_nx g c [20]) w) rfl ?_
    refine kx_st 7 (pc' := 157) (L' := [some (.ref 53), some (.int 20), some (.int x), some (.int (nI dp))]) (st' := [.int (nI dp), .int x, .int 0, .int 1, .ref 53]) (h' := kv_wd (kx_nx g c [20]) w) rfl ?_
    refine kx_call (z := 78) (as := [.ref 53, .int 1, .int 0, .int x, .int (nI dp)]) (rest := []) (v := some (.int (x + N))) (h1 := kv_wd (kx_nx g c [20, 10]) w) rfl (by rw [← show kx_nx (kx_nx g c [20]) (c + 1) [10] = kx_nx g c [20, 10] from kx_nx_app g c [20] [10]]; exact ev_abv_1_1_0 (d := d + 0) (g := kx_nx g c [20]) hE1 hE3 N M (c + 1) (kx_VS_nx [20] hs) (by omega) x dp (by omega)) ?_
    refine kx_st 0 (pc' := 160) (L' := [some (.ref 53), some (.int 20), some (.int x), some (.int (nI dp))]) (st' := [.int (x + N)]) (h' := kv_wd (kx_nx g c [20, 10]) w) rfl ?_
    refine kx_st 2 (pc' := 162) (L' := [some (.ref 53), some (.int 20), some (.int x), some (.int (nI dp))]) (st' := [.int ((x + N) * 3)]) (h' := kv_wd (kx_nx g c [20, 10]) w) rfl ?_
    refine kx_ret (v := some (.int ((x + N) * 3))) rfl ?_
    exact ⟨rfl, rfl⟩
  · exact absurd (nI_le (a := dp) (b := 20) (by omega) (by omega)) h3
set_option maxRecDepth 100000 in
theorem ev_own_1_0 {E : kv_V} {d : Nat} {g : kv_S} {w : kv_W} (hE1 : E 1001 = some (0, 7, kv_KA)) (hE3 : E 1003 = some (0, 28, kv_BO)) (N M : Int32) (c : Nat) (hs : kx_VS g c N M 1) (h40 : c + 2 ≤ 40) (x : Int32) (dp : Nat) (hd : dp + 2 ≤ 20) : kv_ev E (d + 5) 77 [.ref 53, .int 0, .int x, .int (nI dp)] (kv_wd g w) (some (.int ((x + N) * 3))) (kv_wd (kx_nx g c [20, 10]) w) := by
  refine kx_ev (d := d + 4) (by decide) (Nat.le_of_ble_eq_true rfl) ?_
  refine kx_st 0 (pc' := 0) (L' := [some (.ref 53), some (.int 0), some (.int x), some (.int (nI dp))]) (st' := []) (h' := kv_wd g w) rfl ?_
  refine kx_st 4 (pc' := 6) (L' := [some (.ref 53), some (.int 0), some (.int x), some (.int (nI dp))]) (st' := [.int 0, .int (g 53 4), .ref 53]) (h' := kv_wd g w) rfl ?_
  refine kx_call (z := 75) (as := [.int (g 53 4), .int 0]) (rest := [.ref 53]) (v := some (.int 20)) (h1 := kv_wd g w) rfl (by rw [show g 53 4 = 1 from hs.2.2.2]; exact ev_bodyOf_1_0 (d := d + 2) hE1 hE3) ?_
  refine kx_st 0 (pc' := 9) (L' := [some (.ref 53), some (.int 0), some (.int x), some (.int (nI dp))]) (st' := [.int 20, .ref 53]) (h' := kv_wd g w) rfl ?_
  refine kx_st 4 (pc' := 13) (L' := [some (.ref 53), some (.int 0), some (.int x), some (.int (nI dp))]) (st' := [.int ((nI dp) + 1), .int x, .int 20, .ref 53]) (h' := kv_wd g w) rfl ?_
  refine kx_call (z := 79) (as := [.ref 53, .int 20, .int x, .int ((nI dp) + 1)]) (rest := []) (v := some (.int ((x + N) * 3))) (h1 := kv_wd (kx_nx g c [20, 10]) w) rfl (by rw [← nI_succ]; exact ev_run_1_20 (d := d + 0) hE1 hE3 N M c hs h40 x (dp + 1) (by omega)) ?_
  refine kx_st 0 (pc' := 16) (L' := [some (.ref 53), some (.int 0), some (.int x), some (.int (nI dp))]) (st' := [.int ((x + N) * 3)]) (h' := kv_wd (kx_nx g c [20, 10]) w) rfl ?_
  refine kx_ret (v := some (.int ((x + N) * 3))) rfl ?_
  exact ⟨rfl, rfl⟩
set_option maxRecDepth 100000 in
theorem ev_run_1_11 {E : kv_V} {d : Nat} {g : kv_S} {w : kv_W} (hE1 : E 1001 = some (0, 7, kv_KA)) (hE3 : E 1003 = some (0, 28, kv_BO)) (N M : Int32) (c : Nat) (hs : kx_VS g c N M 1) (h40 : c + 3 ≤ 40) (x : Int32) (dp : Nat) (hd : dp + 2 ≤ 20) : kv_ev E (d + 6) 79 [.ref 53, .int 11, .int x, .int (nI dp)] (kv_wd g w) (some (.int (((x + N) * 3) * 2))) (kv_wd (kx_nx g c [11, 20, 10]) w) := by
  refine kx_ev (d := d + 5) (by decide) (Nat.le_of_ble_eq_true rfl) ?_
  refine kx_st 0 (pc' := 0) (L' := [some (.ref 53), some (.int 11), some (.int x), some (.int (nI dp))]) (st' := []) (h' := kv_wd g w) rfl ?_
  refine kx_st 2 (pc' := 3) (L' := [some (.ref 53), some (.int 11), some (.int x), some (.int (nI dp))]) (st' := [.int 20, .int (nI dp)]) (h' := kv_wd g w) rfl ?_
  refine kx_bi (t := 8) rfl rfl (fun (h3 : nI dp ≤ 20) => ?_) (fun (h3 : ¬ (nI dp ≤ 20)) => ?_)
  · refine kx_st 2 (pc' := 10) (L' := [some (.ref 53), some (.int 11), some (.int x), some (.int (nI dp))]) (st' := [.int 11, .ref 53]) (h' := kv_wd g w) rfl ?_
    refine kx_call (z := 76) (as := [.ref 53, .int 11]) (rest := []) (v := none) (h1 := kv_wd (kx_nx g c [11]) w) rfl (ev_note (d := d + 4) c hs.1 (by omega) 11) ?_
    refine kx_st 0 (pc' := 13) (L' := [some (.ref 53), some (.int 11), some (.int x), some (.int (nI dp))]) (st' := []) (h' := kv_wd (kx_nx g c [11]) w) rfl ?_
    refine kx_st 6 (pc' := 123) (L' := [some (.ref 53), some (.int 11), some (.int x), some (.int (nI dp))]) (st' := [.int (nI dp), .int x, .int 0, .ref 53]) (h' := kv_wd (kx_nx g c [11]) w) rfl ?_
    refine kx_call (z := 77) (as := [.ref 53, .int 0, .int x, .int (nI dp)]) (rest := []) (v := some (.int ((x + N) * 3))) (h1 := kv_wd (kx_nx g c [11, 20, 10]) w) rfl (by rw [← show kx_nx (kx_nx g c [11]) (c + 1) [20, 10] = kx_nx g c [11, 20, 10] from kx_nx_app g c [11] [20, 10]]; exact ev_own_1_0 (d := d + 0) (g := kx_nx g c [11]) hE1 hE3 N M (c + 1) (kx_VS_nx [11] hs) (by omega) x dp (by omega)) ?_
    refine kx_st 0 (pc' := 126) (L' := [some (.ref 53), some (.int 11), some (.int x), some (.int (nI dp))]) (st' := [.int ((x + N) * 3)]) (h' := kv_wd (kx_nx g c [11, 20, 10]) w) rfl ?_
    refine kx_st 2 (pc' := 128) (L' := [some (.ref 53), some (.int 11), some (.int x), some (.int (nI dp))]) (st' := [.int (((x + N) * 3) * 2)]) (h' := kv_wd (kx_nx g c [11, 20, 10]) w) rfl ?_
    refine kx_ret (v := some (.int (((x + N) * 3) * 2))) rfl ?_
    exact ⟨rfl, rfl⟩
  · exact absurd (nI_le (a := dp) (b := 20) (by omega) (by omega)) h3
set_option maxRecDepth 100000 in
theorem ev_own_1_1 {E : kv_V} {d : Nat} {g : kv_S} {w : kv_W} (hE1 : E 1001 = some (0, 7, kv_KA)) (hE3 : E 1003 = some (0, 28, kv_BO)) (N M : Int32) (c : Nat) (hs : kx_VS g c N M 1) (h40 : c + 3 ≤ 40) (x : Int32) (dp : Nat) (hd : dp + 3 ≤ 20) : kv_ev E (d + 7) 77 [.ref 53, .int 1, .int x, .int (nI dp)] (kv_wd g w) (some (.int (((x + N) * 3) * 2))) (kv_wd (kx_nx g c [11, 20, 10]) w) := by
  refine kx_ev (d := d + 6) (by decide) (Nat.le_of_ble_eq_true rfl) ?_
  refine kx_st 0 (pc' := 0) (L' := [some (.ref 53), some (.int 1), some (.int x), some (.int (nI dp))]) (st' := []) (h' := kv_wd g w) rfl ?_
  refine kx_st 4 (pc' := 6) (L' := [some (.ref 53), some (.int 1), some (.int x), some (.int (nI dp))]) (st' := [.int 1, .int (g 53 4), .ref 53]) (h' := kv_wd g w) rfl ?_
  refine kx_call (z := 75) (as := [.int (g 53 4), .int 1]) (rest := [.ref 53]) (v := some (.int 11)) (h1 := kv_wd g w) rfl (by rw [show g 53 4 = 1 from hs.2.2.2]; exact ev_bodyOf_1_1 (d := d + 4) hE1 hE3) ?_
  refine kx_st 0 (pc' := 9) (L' := [some (.ref 53), some (.int 1), some (.int x), some (.int (nI dp))]) (st' := [.int 11, .ref 53]) (h' := kv_wd g w) rfl ?_
  refine kx_st 4 (pc' := 13) (L' := [some (.ref 53), some (.int 1), some (.int x), some (.int (nI dp))]) (st' := [.int ((nI dp) + 1), .int x, .int 11, .ref 53]) (h' := kv_wd g w) rfl ?_
  refine kx_call (z := 79) (as := [.ref 53, .int 11, .int x, .int ((nI dp) + 1)]) (rest := []) (v := some (.int (((x + N) * 3) * 2))) (h1 := kv_wd (kx_nx g c [11, 20, 10]) w) rfl (by rw [← nI_succ]; exact ev_run_1_11 (d := d + 0) hE1 hE3 N M c hs h40 x (dp + 1) (by omega)) ?_
  refine kx_st 0 (pc' := 16) (L' := [some (.ref 53), some (.int 1), some (.int x), some (.int (nI dp))]) (st' := [.int (((x + N) * 3) * 2)]) (h' := kv_wd (kx_nx g c [11, 20, 10]) w) rfl ?_
  refine kx_ret (v := some (.int (((x + N) * 3) * 2))) rfl ?_
  exact ⟨rfl, rfl⟩
set_option maxRecDepth 100000 in
theorem ev_run_1_12 {E : kv_V} {d : Nat} {g : kv_S} {w : kv_W} (hE1 : E 1001 = some (0, 7, kv_KA)) (hE3 : E 1003 = some (0, 28, kv_BO)) (N M : Int32) (c : Nat) (hs : kx_VS g c N M 1) (h40 : c + 1 ≤ 40) (x : Int32) (dp : Nat) (hd : dp + 0 ≤ 20) : kv_ev E (d + 2) 79 [.ref 53, .int 12, .int x, .int (nI dp)] (kv_wd g w) (some (.int (x - M))) (kv_wd (kx_nx g c [12]) w) := by
  refine kx_ev (d := d + 1) (by decide) (Nat.le_of_ble_eq_true rfl) ?_
  refine kx_st 0 (pc' := 0) (L' := [some (.ref 53), some (.int 12), some (.int x), some (.int (nI dp))]) (st' := []) (h' := kv_wd g w) rfl ?_
  refine kx_st 2 (pc' := 3) (L' := [some (.ref 53), some (.int 12), some (.int x), some (.int (nI dp))]) (st' := [.int 20, .int (nI dp)]) (h' := kv_wd g w) rfl ?_
  refine kx_bi (t := 8) rfl rfl (fun (h3 : nI dp ≤ 20) => ?_) (fun (h3 : ¬ (nI dp ≤ 20)) => ?_)
  · refine kx_st 2 (pc' := 10) (L' := [some (.ref 53), some (.int 12), some (.int x), some (.int (nI dp))]) (st' := [.int 12, .ref 53]) (h' := kv_wd g w) rfl ?_
    refine kx_call (z := 76) (as := [.ref 53, .int 12]) (rest := []) (v := none) (h1 := kv_wd (kx_nx g c [12]) w) rfl (ev_note (d := d + 0) c hs.1 (by omega) 12) ?_
    refine kx_st 0 (pc' := 13) (L' := [some (.ref 53), some (.int 12), some (.int x), some (.int (nI dp))]) (st' := []) (h' := kv_wd (kx_nx g c [12]) w) rfl ?_
    refine kx_st 6 (pc' := 135) (L' := [some (.ref 53), some (.int 12), some (.int x), some (.int (nI dp))]) (st' := [.int (x - ((kx_nx g c [12]) 53 3))]) (h' := kv_wd (kx_nx g c [12]) w) rfl ?_
    refine kx_ret (v := some (.int (x - ((kx_nx g c [12]) 53 3)))) rfl ?_
    exact ⟨by rw [show (kx_nx g c [12]) 53 3 = M from (kx_VS_nx [12] hs).2.2.1], rfl⟩
  · exact absurd (nI_le (a := dp) (b := 20) (by omega) (by omega)) h3
set_option maxRecDepth 100000 in
theorem ev_own_1_2 {E : kv_V} {d : Nat} {g : kv_S} {w : kv_W} (hE1 : E 1001 = some (0, 7, kv_KA)) (hE3 : E 1003 = some (0, 28, kv_BO)) (N M : Int32) (c : Nat) (hs : kx_VS g c N M 1) (h40 : c + 1 ≤ 40) (x : Int32) (dp : Nat) (hd : dp + 1 ≤ 20) : kv_ev E (d + 3) 77 [.ref 53, .int 2, .int x, .int (nI dp)] (kv_wd g w) (some (.int (x - M))) (kv_wd (kx_nx g c [12]) w) := by
  refine kx_ev (d := d + 2) (by decide) (Nat.le_of_ble_eq_true rfl) ?_
  refine kx_st 0 (pc' := 0) (L' := [some (.ref 53), some (.int 2), some (.int x), some (.int (nI dp))]) (st' := []) (h' := kv_wd g w) rfl ?_
  refine kx_st 4 (pc' := 6) (L' := [some (.ref 53), some (.int 2), some (.int x), some (.int (nI dp))]) (st' := [.int 2, .int (g 53 4), .ref 53]) (h' := kv_wd g w) rfl ?_
  refine kx_call (z := 75) (as := [.int (g 53 4), .int 2]) (rest := [.ref 53]) (v := some (.int 12)) (h1 := kv_wd g w) rfl (by rw [show g 53 4 = 1 from hs.2.2.2]; exact ev_bodyOf_1_2 (d := d + 0) hE1 hE3) ?_
  refine kx_st 0 (pc' := 9) (L' := [some (.ref 53), some (.int 2), some (.int x), some (.int (nI dp))]) (st' := [.int 12, .ref 53]) (h' := kv_wd g w) rfl ?_
  refine kx_st 4 (pc' := 13) (L' := [some (.ref 53), some (.int 2), some (.int x), some (.int (nI dp))]) (st' := [.int ((nI dp) + 1), .int x, .int 12, .ref 53]) (h' := kv_wd g w) rfl ?_
  refine kx_call (z := 79) (as := [.ref 53, .int 12, .int x, .int ((nI dp) + 1)]) (rest := []) (v := some (.int (x - M))) (h1 := kv_wd (kx_nx g c [12]) w) rfl (by rw [← nI_succ]; exact ev_run_1_12 (d := d + 0) hE1 hE3 N M c hs h40 x (dp + 1) (by omega)) ?_
  refine kx_st 0 (pc' := 16) (L' := [some (.ref 53), some (.int 2), some (.int x), some (.int (nI dp))]) (st' := [.int (x - M)]) (h' := kv_wd (kx_nx g c [12]) w) rfl ?_
  refine kx_ret (v := some (.int (x - M))) rfl ?_
  exact ⟨rfl, rfl⟩
set_option maxRecDepth 100000 in
theorem ev_run_1_13 {E : kv_V} {d : Nat} {g : kv_S} {w : kv_W} (hE1 : E 1001 = some (0, 7, kv_KA)) (hE3 : E 1003 = some (0, 28, kv_BO)) (N M : Int32) (c : Nat) (hs : kx_VS g c N M 1) (h40 : c + 5 ≤ 40) (x : Int32) (dp : Nat) (hd : dp + 3 ≤ 20) : kv_ev E (d + 8) 79 [.ref 53, .int 13, .int x, .int (nI dp)] (kv_wd g w) (some (.int ((((x + N) * 3) * 2) ^^^ (x - M)))) (kv_wd (kx_nx g c [13, 11, 20, 10, 12]) w) := by
  refine kx_ev (d := d + 7) (by decide) (Nat.le_of_ble_eq_true rfl) ?_
  refine kx_st 0 (pc' := 0) (L' := [some (.ref 53), some (.int 13), some (.int x), some (.int (nI dp))]) (st' := []) (h' := kv_wd g w) rfl ?_
  refine kx_st 2 (pc' := 3) (L' := [some (.ref 53), some (.int 13), some (.int x), some (.int (nI dp))]) (st' := [.int 20, .int (nI dp)]) (h' := kv_wd g w) rfl ?_
  refine kx_bi (t := 8) rfl rfl (fun (h3 : nI dp ≤ 20) => ?_) (fun (h3 : ¬ (nI dp ≤ 20)) => ?_)
  · refine kx_st 2 (pc' := 10) (L' := [some (.ref 53), some (.int 13), some (.int x), some (.int (nI dp))]) (st' := [.int 13, .ref 53]) (h' := kv_wd g w) rfl ?_
    refine kx_call (z := 76) (as := [.ref 53, .int 13]) (rest := []) (v := none) (h1 := kv_wd (kx_nx g c [13]) w) rfl (ev_note (d := d + 6) c hs.1 (by omega) 13) ?_
    refine kx_st 0 (pc' := 13) (L' := [some (.ref 53), some (.int 13), some (.int x), some (.int (nI dp))]) (st' := []) (h' := kv_wd (kx_nx g c [13]) w) rfl ?_
    refine kx_st 6 (pc' := 140) (L' := [some (.ref 53), some (.int 13), some (.int x), some (.int (nI dp))]) (st' := [.int (nI dp), .int x, .int 1, .ref 53]) (h' := kv_wd (kx_nx g c [13]) w) rfl ?_
    refine kx_call (z := 77) (as := [.ref 53, .int 1, .int x, .int (nI dp)]) (rest := []) (v := some (.int (((x + N) * 3) * 2))) (h1 := kv_wd (kx_nx g c [13, 11, 20, 10]) w) rfl (by rw [← show kx_nx (kx_nx g c [13]) (c + 1) [11, 20, 10] = kx_nx g c [13, 11, 20, 10] from kx_nx_app g c [13] [11, 20, 10]]; exact ev_own_1_1 (d := d + 0) (g := kx_nx g c [13]) hE1 hE3 N M (c + 1) (kx_VS_nx [13] hs) (by omega) x dp (by omega)) ?_
    refine kx_st 0 (pc' := 143) (L' := [some (.ref 53), some (.int 13), some (.int x), some (.int (nI dp))]) (st' := [.int (((x + N) * 3) * 2)]) (h' := kv_wd (kx_nx g c [13, 11, 20, 10]) w) rfl ?_
    refine kx_st 4 (pc' := 147) (L' := [some (.ref 53), some (.int 13), some (.int x), some (.int (nI dp))]) (st' := [.int (nI dp), .int x, .int 2, .ref 53, .int (((x + N) * 3) * 2)]) (h' := kv_wd (kx_nx g c [13, 11, 20, 10]) w) rfl ?_
    refine kx_call (z := 77) (as := [.ref 53, .int 2, .int x, .int (nI dp)]) (rest := [.int (((x + N) * 3) * 2)]) (v := some (.int (x - M))) (h1 := kv_wd (kx_nx g c [13, 11, 20, 10, 12]) w) rfl (by rw [← show kx_nx (kx_nx g c [13, 11, 20, 10]) (c + 4) [12] = kx_nx g c [13, 11, 20, 10, 12] from kx_nx_app g c [13, 11, 20, 10] [12]]; exact ev_own_1_2 (d := d + 4) (g := kx_nx g c [13, 11, 20, 10]) hE1 hE3 N M (c + 4) (kx_VS_nx [13, 11, 20, 10] hs) (by omega) x dp (by omega)) ?_
    refine kx_st 0 (pc' := 150) (L' := [some (.ref 53), some (.int 13), some (.int x), some (.int (nI dp))]) (st' := [.int (x - M), .int (((x + N) * 3) * 2)]) (h' := kv_wd (kx_nx g c [13, 11, 20, 10, 12]) w) rfl ?_
    refine kx_st 1 (pc' := 151) (L' := [some (.ref 53), some (.int 13), some (.int x), some (.int (nI dp))]) (st' := [.int ((((x + N) * 3) * 2) ^^^ (x - M))]) (h' := kv_wd (kx_nx g c [13, 11, 20, 10, 12]) w) rfl ?_
    refine kx_ret (v := some (.int ((((x + N) * 3) * 2) ^^^ (x - M)))) rfl ?_
    exact ⟨rfl, rfl⟩
  · exact absurd (nI_le (a := dp) (b := 20) (by omega) (by omega)) h3
set_option maxRecDepth 100000 in
theorem ev_own_1_3 {E : kv_V} {d : Nat} {g : kv_S} {w : kv_W} (hE1 : E 1001 = some (0, 7, kv_KA)) (hE3 : E 1003 = some (0, 28, kv_BO)) (N M : Int32) (c : Nat) (hs : kx_VS g c N M 1) (h40 : c + 5 ≤ 40) (x : Int32) (dp : Nat) (hd : dp + 4 ≤ 20) : kv_ev E (d + 9) 77 [.ref 53, .int 3, .int x, .int (nI dp)] (kv_wd g w) (some (.int ((((x + N) * 3) * 2) ^^^ (x - M)))) (kv_wd (kx_nx g c [13, 11, 20, 10, 12]) w) := by
  refine kx_ev (d := d + 8) (by decide) (Nat.le_of_ble_eq_true rfl) ?_
  refine kx_st 0 (pc' := 0) (L' := [some (.ref 53), some (.int 3), some (.int x), some (.int (nI dp))]) (st' := []) (h' := kv_wd g w) rfl ?_
  refine kx_st 4 (pc' := 6) (L' := [some (.ref 53), some (.int 3), some (.int x), some (.int (nI dp))]) (st' := [.int 3, .int (g 53 4), .ref 53]) (h' := kv_wd g w) rfl ?_
  refine kx_call (z := 75) (as := [.int (g 53 4), .int 3]) (rest := [.ref 53]) (v := some (.int 13)) (h1 := kv_wd g w) rfl (by rw [show g 53 4 = 1 from hs.2.2.2]; exact ev_bodyOf_1_3 (d := d + 6) hE1 hE3) ?_
  refine kx_st 0 (pc' := 9) (L' := [some (.ref 53), some (.int 3), some (.int x), some (.int (nI dp))]) (st' := [.int 13, .ref 53]) (h' := kv_wd g w) rfl ?_
  refine kx_st 4 (pc' := 13) (L' := [some (.ref 53), some (.int 3), some (.int x), some (.int (nI dp))]) (st' := [.int ((nI dp) + 1), .int x, .int 13, .ref 53]) (h' := kv_wd g w) rfl ?_
  refine kx_call (z := 79) (as := [.ref 53, .int 13, .int x, .int ((nI dp) + 1)]) (rest := []) (v := some (.int ((((x + N) * 3) * 2) ^^^ (x - M)))) (h1 := kv_wd (kx_nx g c [13, 11, 20, 10, 12]) w) rfl (by rw [← nI_succ]; exact ev_run_1_13 (d := d + 0) hE1 hE3 N M c hs h40 x (dp + 1) (by omega)) ?_
  refine kx_st 0 (pc' := 16) (L' := [some (.ref 53), some (.int 3), some (.int x), some (.int (nI dp))]) (st' := [.int ((((x + N) * 3) * 2) ^^^ (x - M))]) (h' := kv_wd (kx_nx g c [13, 11, 20, 10, 12]) w) rfl ?_
  refine kx_ret (v := some (.int ((((x + N) * 3) * 2) ^^^ (x - M)))) rfl ?_
  exact ⟨rfl, rfl⟩
set_option maxRecDepth 100000 in
theorem ev_run_2_10 {E : kv_V} {d : Nat} {g : kv_S} {w : kv_W} (hE1 : E 1001 = some (0, 7, kv_KA)) (hE3 : E 1003 = some (0, 28, kv_BO)) (N M : Int32) (c : Nat) (hs : kx_VS g c N M 2) (h40 : c + 1 ≤ 40) (x : Int32) (dp : Nat) (hd : dp + 0 ≤ 20) : kv_ev E (d + 2) 79 [.ref 53, .int 10, .int x, .int (nI dp)] (kv_wd g w) (some (.int (x + N))) (kv_wd (kx_nx g c [10]) w) := by
  refine kx_ev (d := d + 1) (by decide) (Nat.le_of_ble_eq_true rfl) ?_
  refine kx_st 0 (pc' := 0) (L' := [some (.ref 53), some (.int 10), some (.int x), some (.int (nI dp))]) (st' := []) (h' := kv_wd g w) rfl ?_
  refine kx_st 2 (pc' := 3) (L' := [some (.ref 53), some (.int 10), some (.int x), some (.int (nI dp))]) (st' := [.int 20, .int (nI dp)]) (h' := kv_wd g w) rfl ?_
  refine kx_bi (t := 8) rfl rfl (fun (h3 : nI dp ≤ 20) => ?_) (fun (h3 : ¬ (nI dp ≤ 20)) => ?_)
  · refine kx_st 2 (pc' := 10) (L' := [some (.ref 53), some (.int 10), some (.int x), some (.int (nI dp))]) (st' := [.int 10, .ref 53]) (h' := kv_wd g w) rfl ?_
    refine kx_call (z := 76) (as := [.ref 53, .int 10]) (rest := []) (v := none) (h1 := kv_wd (kx_nx g c [10]) w) rfl (ev_note (d := d + 0) c hs.1 (by omega) 10) ?_
    refine kx_st 0 (pc' := 13) (L' := [some (.ref 53), some (.int 10), some (.int x), some (.int (nI dp))]) (st' := []) (h' := kv_wd (kx_nx g c [10]) w) rfl ?_
    refine kx_st 6 (pc' := 118) (L' := [some (.ref 53), some (.int 10), some (.int x), some (.int (nI dp))]) (st' := [.int (x + ((kx_nx g c [10]) 53 2))]) (h' := kv_wd (kx_nx g c [10]) w) rfl ?_
    refine kx_ret (v := some (.int (x + ((kx_nx g c [10]) 53 2)))) rfl ?_
    exact ⟨by rw [show (kx_nx g c [10]) 53 2 = N from (kx_VS_nx [10] hs).2.1], rfl⟩
  · exact absurd (nI_le (a := dp) (b := 20) (by omega) (by omega)) h3
set_option maxRecDepth 100000 in
theorem ev_own_2_0 {E : kv_V} {d : Nat} {g : kv_S} {w : kv_W} (hE1 : E 1001 = some (0, 7, kv_KA)) (hE3 : E 1003 = some (0, 28, kv_BO)) (N M : Int32) (c : Nat) (hs : kx_VS g c N M 2) (h40 : c + 1 ≤ 40) (x : Int32) (dp : Nat) (hd : dp + 1 ≤ 20) : kv_ev E (d + 3) 77 [.ref 53, .int 0, .int x, .int (nI dp)] (kv_wd g w) (some (.int (x + N))) (kv_wd (kx_nx g c [10]) w) := by
  refine kx_ev (d := d + 2) (by decide) (Nat.le_of_ble_eq_true rfl) ?_
  refine kx_st 0 (pc' := 0) (L' := [some (.ref 53), some (.int 0), some (.int x), some (.int (nI dp))]) (st' := []) (h' := kv_wd g w) rfl ?_
  refine kx_st 4 (pc' := 6) (L' := [some (.ref 53), some (.int 0), some (.int x), some (.int (nI dp))]) (st' := [.int 0, .int (g 53 4), .ref 53]) (h' := kv_wd g w) rfl ?_
  refine kx_call (z := 75) (as := [.int (g 53 4), .int 0]) (rest := [.ref 53]) (v := some (.int 10)) (h1 := kv_wd g w) rfl (by rw [show g 53 4 = 2 from hs.2.2.2]; exact ev_bodyOf_2_0 (d := d + 0) hE1 hE3) ?_
  refine kx_st 0 (pc' := 9) (L' := [some (.ref 53), some (.int 0), some (.int x), some (.int (nI dp))]) (st' := [.int 10, .ref 53]) (h' := kv_wd g w) rfl ?_
  refine kx_st 4 (pc' := 13) (L' := [some (.ref 53), some (.int 0), some (.int x), some (.int (nI dp))]) (st' := [.int ((nI dp) + 1), .int x, .int 10, .ref 53]) (h' := kv_wd g w) rfl ?_
  refine kx_call (z := 79) (as := [.ref 53, .int 10, .int x, .int ((nI dp) + 1)]) (rest := []) (v := some (.int (x + N))) (h1 := kv_wd (kx_nx g c [10]) w) rfl (by rw [← nI_succ]; exact ev_run_2_10 (d := d + 0) hE1 hE3 N M c hs h40 x (dp + 1) (by omega)) ?_
  refine kx_st 0 (pc' := 16) (L' := [some (.ref 53), some (.int 0), some (.int x), some (.int (nI dp))]) (st' := [.int (x + N)]) (h' := kv_wd (kx_nx g c [10]) w) rfl ?_
  refine kx_ret (v := some (.int (x + N))) rfl ?_
  exact ⟨rfl, rfl⟩
set_option maxRecDepth 100000 in
theorem ev_run_2_11 {E : kv_V} {d : Nat} {g : kv_S} {w : kv_W} (hE1 : E 1001 = some (0, 7, kv_KA)) (hE3 : E 1003 = some (0, 28, kv_BO)) (N M : Int32) (c : Nat) (hs : kx_VS g c N M 2) (h40 : c + 2 ≤ 40) (x : Int32) (dp : Nat) (hd : dp + 1 ≤ 20) : kv_ev E (d + 4) 79 [.ref 53, .int 11, .int x, .int (nI dp)] (kv_wd g w) (some (.int ((x + N) * 2))) (kv_wd (kx_nx g c [11, 10]) w) := by
  refine kx_ev (d := d + 3) (by decide) (Nat.le_of_ble_eq_true rfl) ?_
  refine kx_st 0 (pc' := 0) (L' := [some (.ref 53), some (.int 11), some (.int x), some (.int (nI dp))]) (st' := []) (h' := kv_wd g w) rfl ?_
  refine kx_st 2 (pc' := 3) (L' := [some (.ref 53), some (.int 11), some (.int x), some (.int (nI dp))]) (st' := [.int 20, .int (nI dp)]) (h' := kv_wd g w) rfl ?_
  refine kx_bi (t := 8) rfl rfl (fun (h3 : nI dp ≤ 20) => ?_) (fun (h3 : ¬ (nI dp ≤ 20)) => ?_)
  · refine kx_st 2 (pc' := 10) (L' := [some (.ref 53), some (.int 11), some (.int x), some (.int (nI dp))]) (st' := [.int 11, .ref 53]) (h' := kv_wd g w) rfl ?_
    refine kx_call (z := 76) (as := [.ref 53, .int 11]) (rest := []) (v := none) (h1 := kv_wd (kx_nx g c [11]) w) rfl (ev_note (d := d + 2) c hs.1 (by omega) 11) ?_
    refine kx_st 0 (pc' := 13) (L' := [some (.ref 53), some (.int 11), some (.int x), some (.int (nI dp))]) (st' := []) (h' := kv_wd (kx_nx g c [11]) w) rfl ?_
    refine kx_st 6 (pc' := 123) (L' := [some (.ref 53), some (.int 11), some (.int x), some (.int (nI dp))]) (st' := [.int (nI dp), .int x, .int 0, .ref 53]) (h' := kv_wd (kx_nx g c [11]) w) rfl ?_
    refine kx_call (z := 77) (as := [.ref 53, .int 0, .int x, .int (nI dp)]) (rest := []) (v := some (.int (x + N))) (h1 := kv_wd (kx_nx g c [11, 10]) w) rfl (by rw [← show kx_nx (kx_nx g c [11]) (c + 1) [10] = kx_nx g c [11, 10] from kx_nx_app g c [11] [10]]; exact ev_own_2_0 (d := d + 0) (g := kx_nx g c [11]) hE1 hE3 N M (c + 1) (kx_VS_nx [11] hs) (by omega) x dp (by omega)) ?_
    refine kx_st 0 (pc' := 126) (L' := [some (.ref 53), some (.int 11), some (.int x), some (.int (nI dp))]) (st' := [.int (x + N)]) (h' := kv_wd (kx_nx g c [11, 10]) w) rfl ?_
    refine kx_st 2 (pc' := 128) (L' := [some (.ref 53), some (.int 11), some (.int x), some (.int (nI dp))]) (st' := [.int ((x + N) * 2)]) (h' := kv_wd (kx_nx g c [11, 10]) w) rfl ?_
    refine kx_ret (v := some (.int ((x + N) * 2))) rfl ?_
    exact ⟨rfl, rfl⟩
  · exact absurd (nI_le (a := dp) (b := 20) (by omega) (by omega)) h3
set_option maxRecDepth 100000 in
theorem ev_abv_2_2_1 {E : kv_V} {d : Nat} {g : kv_S} {w : kv_W} (hE1 : E 1001 = some (0, 7, kv_KA)) (hE3 : E 1003 = some (0, 28, kv_BO)) (N M : Int32) (c : Nat) (hs : kx_VS g c N M 2) (h40 : c + 2 ≤ 40) (x : Int32) (dp : Nat) (hd : dp + 2 ≤ 20) : kv_ev E (d + 5) 78 [.ref 53, .int 2, .int 1, .int x, .int (nI dp)] (kv_wd g w) (some (.int ((x + N) * 2))) (kv_wd (kx_nx g c [11, 10]) w) := by
  refine kx_ev (d := d + 4) (by decide) (Nat.le_of_ble_eq_true rfl) ?_
  refine kx_st 0 (pc' := 0) (L' := [some (.ref 53), some (.int 2), some (.int 1), some (.int x), some (.int (nI dp))]) (st' := []) (h' := kv_wd g w) rfl ?_
  refine kx_st 2 (pc' := 2) (L' := [some (.ref 53), some (.int 2), some (.int 1), some (.int x), some (.int (nI dp))]) (st' := [.int 2, .ref 53]) (h' := kv_wd g w) rfl ?_
  refine kx_call (z := 28) (as := [.int 2]) (rest := [.ref 53]) (v := some (.int 0)) (h1 := kv_wd g w) rfl (ev_above_2 (d := d + 3) hE1) ?_
  refine kx_st 0 (pc' := 5) (L' := [some (.ref 53), some (.int 2), some (.int 1), some (.int x), some (.int (nI dp))]) (st' := [.int 0, .ref 53]) (h' := kv_wd g w) rfl ?_
  refine kx_st 1 (pc' := 6) (L' := [some (.ref 53), some (.int 2), some (.int 1), some (.int x), some (.int (nI dp))]) (st' := [.int 1, .int 0, .ref 53]) (h' := kv_wd g w) rfl ?_
  refine kx_call (z := 75) (as := [.int 0, .int 1]) (rest := [.ref 53]) (v := some (.int 11)) (h1 := kv_wd g w) rfl (ev_bodyOf_0_1 (d := d + 2) hE1 hE3) ?_
  refine kx_st 0 (pc' := 9) (L' := [some (.ref 53), some (.int 2), some (.int 1), some (.int x), some (.int (nI dp))]) (st' := [.int 11, .ref 53]) (h' := kv_wd g w) rfl ?_
  refine kx_st 4 (pc' := 14) (L' := [some (.ref 53), some (.int 2), some (.int 1), some (.int x), some (.int (nI dp))]) (st' := [.int ((nI dp) + 1), .int x, .int 11, .ref 53]) (h' := kv_wd g w) rfl ?_
  refine kx_call (z := 79) (as := [.ref 53, .int 11, .int x, .int ((nI dp) + 1)]) (rest := []) (v := some (.int ((x + N) * 2))) (h1 := kv_wd (kx_nx g c [11, 10]) w) rfl (by rw [← nI_succ]; exact ev_run_2_11 (d := d + 0) hE1 hE3 N M c hs h40 x (dp + 1) (by omega)) ?_
  refine kx_st 0 (pc' := 17) (L' := [some (.ref 53), some (.int 2), some (.int 1), some (.int x), some (.int (nI dp))]) (st' := [.int ((x + N) * 2)]) (h' := kv_wd (kx_nx g c [11, 10]) w) rfl ?_
  refine kx_ret (v := some (.int ((x + N) * 2))) rfl ?_
  exact ⟨rfl, rfl⟩
set_option maxRecDepth 100000 in
theorem ev_run_2_12 {E : kv_V} {d : Nat} {g : kv_S} {w : kv_W} (hE1 : E 1001 = some (0, 7, kv_KA)) (hE3 : E 1003 = some (0, 28, kv_BO)) (N M : Int32) (c : Nat) (hs : kx_VS g c N M 2) (h40 : c + 1 ≤ 40) (x : Int32) (dp : Nat) (hd : dp + 0 ≤ 20) : kv_ev E (d + 2) 79 [.ref 53, .int 12, .int x, .int (nI dp)] (kv_wd g w) (some (.int (x - M))) (kv_wd (kx_nx g c [12]) w) := by
  refine kx_ev (d := d + 1) (by decide) (Nat.le_of_ble_eq_true rfl) ?_
  refine kx_st 0 (pc' := 0) (L' := [some (.ref 53), some (.int 12), some (.int x), some (.int (nI dp))]) (st' := []) (h' := kv_wd g w) rfl ?_
  refine kx_st 2 (pc' := 3) (L' := [some (.ref 53), some (.int 12), some (.int x), some (.int (nI dp))]) (st' := [.int 20, .int (nI dp)]) (h' := kv_wd g w) rfl ?_
  refine kx_bi (t := 8) rfl rfl (fun (h3 : nI dp ≤ 20) => ?_) (fun (h3 : ¬ (nI dp ≤ 20)) => ?_)
  · refine kx_st 2 (pc' := 10) (L' := [some (.ref 53), some (.int 12), some (.int x), some (.int (nI dp))]) (st' := [.int 12, .ref 53]) (h' := kv_wd g w) rfl ?_
    refine kx_call (z := 76) (as := [.ref 53, .int 12]) (rest := []) (v := none) (h1 := kv_wd (kx_nx g c [12]) w) rfl (ev_note (d := d + 0) c hs.1 (by omega) 12) ?_
    refine kx_st 0 (pc' := 13) (L' := [some (.ref 53), some (.int 12), some (.int x), some (.int (nI dp))]) (st' := []) (h' := kv_wd (kx_nx g c [12]) w) rfl ?_
    refine kx_st 6 (pc' := 135) (L' := [some (.ref 53), some (.int 12), some (.int x), some (.int (nI dp))]) (st' := [.int (x - ((kx_nx g c [12]) 53 3))]) (h' := kv_wd (kx_nx g c [12]) w) rfl ?_
    refine kx_ret (v := some (.int (x - ((kx_nx g c [12]) 53 3)))) rfl ?_
    exact ⟨by rw [show (kx_nx g c [12]) 53 3 = M from (kx_VS_nx [12] hs).2.2.1], rfl⟩
  · exact absurd (nI_le (a := dp) (b := 20) (by omega) (by omega)) h3
set_option maxRecDepth 100000 in
theorem ev_own_2_2 {E : kv_V} {d : Nat} {g : kv_S} {w : kv_W} (hE1 : E 1001 = some (0, 7, kv_KA)) (hE3 : E 1003 = some (0, 28, kv_BO)) (N M : Int32) (c : Nat) (hs : kx_VS g c N M 2) (h40 : c + 1 ≤ 40) (x : Int32) (dp : Nat) (hd : dp + 1 ≤ 20) : kv_ev E (d + 3) 77 [.ref 53, .int 2, .int x, .int (nI dp)] (kv_wd g w) (some (.int (x - M))) (kv_wd (kx_nx g c [12]) w) := by
  refine kx_ev (d := d + 2) (by decide) (Nat.le_of_ble_eq_true rfl) ?_
  refine kx_st 0 (pc' := 0) (L' := [some (.ref 53), some (.int 2), some (.int x), some (.int (nI dp))]) (st' := []) (h' := kv_wd g w) rfl ?_
  refine kx_st 4 (pc' := 6) (L' := [some (.ref 53), some (.int 2), some (.int x), some (.int (nI dp))]) (st' := [.int 2, .int (g 53 4), .ref 53]) (h' := kv_wd g w) rfl ?_
  refine kx_call (z := 75) (as := [.int (g 53 4), .int 2]) (rest := [.ref 53]) (v := some (.int 12)) (h1 := kv_wd g w) rfl (by rw [show g 53 4 = 2 from hs.2.2.2]; exact ev_bodyOf_2_2 (d := d + 0) hE1 hE3) ?_
  refine kx_st 0 (pc' := 9) (L' := [some (.ref 53), some (.int 2), some (.int x), some (.int (nI dp))]) (st' := [.int 12, .ref 53]) (h' := kv_wd g w) rfl ?_
  refine kx_st 4 (pc' := 13) (L' := [some (.ref 53), some (.int 2), some (.int x), some (.int (nI dp))]) (st' := [.int ((nI dp) + 1), .int x, .int 12, .ref 53]) (h' := kv_wd g w) rfl ?_
  refine kx_call (z := 79) (as := [.ref 53, .int 12, .int x, .int ((nI dp) + 1)]) (rest := []) (v := some (.int (x - M))) (h1 := kv_wd (kx_nx g c [12]) w) rfl (by rw [← nI_succ]; exact ev_run_2_12 (d := d + 0) hE1 hE3 N M c hs h40 x (dp + 1) (by omega)) ?_
  refine kx_st 0 (pc' := 16) (L' := [some (.ref 53), some (.int 2), some (.int x), some (.int (nI dp))]) (st' := [.int (x - M)]) (h' := kv_wd (kx_nx g c [12]) w) rfl ?_
  refine kx_ret (v := some (.int (x - M))) rfl ?_
  exact ⟨rfl, rfl⟩
set_option maxRecDepth 100000 in
theorem ev_run_2_30 {E : kv_V} {d : Nat} {g : kv_S} {w : kv_W} (hE1 : E 1001 = some (0, 7, kv_KA)) (hE3 : E 1003 = some (0, 28, kv_BO)) (N M : Int32) (c : Nat) (hs : kx_VS g c N M 2) (h40 : c + 4 ≤ 40) (x : Int32) (dp : Nat) (hd : dp + 2 ≤ 20) : kv_ev E (d + 6) 79 [.ref 53, .int 30, .int x, .int (nI dp)] (kv_wd g w) (some (.int (((x + N) * 2) - (1 - M)))) (kv_wd (kx_nx g c [30, 11, 10, 12]) w) := by
  refine kx_ev (d := d + 5) (by decide) (Nat.le_of_ble_eq_true rfl) ?_
  refine kx_st 0 (pc' := 0) (L' := [some (.ref 53), some (.int 30), some (.int x), some (.int (nI dp))]) (st' := []) (h' := kv_wd g w) rfl ?_
  refine kx_st 2 (pc' := 3) (L' := [some (.ref 53), some (.int 30), some (.int x), some (.int (nI dp))]) (st' := [.int 20, .int (nI dp)]) (h' := kv_wd g w) rfl ?_
  refine kx_bi (t := 8) rfl rfl (fun (h3 : nI dp ≤ 20) => ?_) (fun (h3 : ¬ (nI dp ≤ 20)) => ?_)
  · refine kx_st 2 (pc' := 10) (L' := [some (.ref 53), some (.int 30), some (.int x), some (.int (nI dp))]) (st' := [.int 30, .ref 53]) (h' := kv_wd g w) rfl ?_
    refine kx_call (z := 76) (as := [.ref 53, .int 30]) (rest := []) (v := none) (h1 := kv_wd (kx_nx g c [30]) w) rfl (ev_note (d := d + 4) c hs.1 (by omega) 30) ?_
    refine kx_st 0 (pc' := 13) (L' := [some (.ref 53), some (.int 30), some (.int x), some (.int (nI dp))]) (st' := []) (h' := kv_wd (kx_nx g c [30]) w) rfl ?_
    refine kx_st 7 (pc' := 168) (L' := [some (.ref 53), some (.int 30), some (.int x), some (.int (nI dp))]) (st' := [.int (nI dp), .int x, .int 1, .int 2, .ref 53]) (h' := kv_wd (kx_nx g c [30]) w) rfl ?_
    refine kx_call (z := 78) (as := [.ref 53, .int 2, .int 1, .int x, .int (nI dp)]) (rest := []) (v := some (.int ((x + N) * 2))) (h1 := kv_wd (kx_nx g c [30, 11, 10]) w) rfl (by rw [← show kx_nx (kx_nx g c [30]) (c + 1) [11, 10] = kx_nx g c [30, 11, 10] from kx_nx_app g c [30] [11, 10]]; exact ev_abv_2_2_1 (d := d + 0) (g := kx_nx g c [30]) hE1 hE3 N M (c + 1) (kx_VS_nx [30] hs) (by omega) x dp (by omega)) ?_
    refine kx_st 0 (pc' := 171) (L' := [some (.ref 53), some (.int 30), some (.int x), some (.int (nI dp))]) (st' := [.int ((x + N) * 2)]) (h' := kv_wd (kx_nx g c [30, 11, 10]) w) rfl ?_
    refine kx_st 4 (pc' := 175) (L' := [some (.ref 53), some (.int 30), some (.int x), some (.int (nI dp))]) (st' := [.int (nI dp), .int 1, .int 2, .ref 53, .int ((x + N) * 2)]) (h' := kv_wd (kx_nx g c [30, 11, 10]) w) rfl ?_
    refine kx_call (z := 77) (as := [.ref 53, .int 2, .int 1, .int (nI dp)]) (rest := [.int ((x + N) * 2)]) (v := some (.int (1 - M))) (h1 := kv_wd (kx_nx g c [30, 11, 10, 12]) w) rfl (by rw [← show kx_nx (kx_nx g c [30, 11, 10]) (c + 3) [12] = kx_nx g c [30, 11, 10, 12] from kx_nx_app g c [30, 11, 10] [12]]; exact ev_own_2_2 (d := d + 2) (g := kx_nx g c [30, 11, 10]) hE1 hE3 N M (c + 3) (kx_VS_nx [30, 11, 10] hs) (by omega) 1 dp (by omega)) ?_
    refine kx_st 0 (pc' := 178) (L' := [some (.ref 53), some (.int 30), some (.int x), some (.int (nI dp))]) (st' := [.int (1 - M), .int ((x + N) * 2)]) (h' := kv_wd (kx_nx g c [30, 11, 10, 12]) w) rfl ?_
    refine kx_st 1 (pc' := 179) (L' := [some (.ref 53), some (.int 30), some (.int x), some (.int (nI dp))]) (st' := [.int (((x + N) * 2) - (1 - M))]) (h' := kv_wd (kx_nx g c [30, 11, 10, 12]) w) rfl ?_
    refine kx_ret (v := some (.int (((x + N) * 2) - (1 - M)))) rfl ?_
    exact ⟨rfl, rfl⟩
  · exact absurd (nI_le (a := dp) (b := 20) (by omega) (by omega)) h3
set_option maxRecDepth 100000 in
theorem ev_own_2_1 {E : kv_V} {d : Nat} {g : kv_S} {w : kv_W} (hE1 : E 1001 = some (0, 7, kv_KA)) (hE3 : E 1003 = some (0, 28, kv_BO)) (N M : Int32) (c : Nat) (hs : kx_VS g c N M 2) (h40 : c + 4 ≤ 40) (x : Int32) (dp : Nat) (hd : dp + 3 ≤ 20) : kv_ev E (d + 7) 77 [.ref 53, .int 1, .int x, .int (nI dp)] (kv_wd g w) (some (.int (((x + N) * 2) - (1 - M)))) (kv_wd (kx_nx g c [30, 11, 10, 12]) w) := by
  refine kx_ev (d := d + 6) (by decide) (Nat.le_of_ble_eq_true rfl) ?_
  refine kx_st 0 (pc' := 0) (L' := [some (.ref 53), some (.int 1), some (.int x), some (.int (nI dp))]) (st' := []) (h' := kv_wd g w) rfl ?_
  refine kx_st 4 (pc' := 6) (L' := [some (.ref 53), some (.int 1), some (.int x), some (.int (nI dp))]) (st' := [.int 1, .int (g 53 4), .ref 53]) (h' := kv_wd g w) rfl ?_
  refine kx_call (z := 75) (as := [.int (g 53 4), .int 1]) (rest := [.ref 53]) (v := some (.int 30)) (h1 := kv_wd g w) rfl (by rw [show g 53 4 = 2 from hs.2.2.2]; exact ev_bodyOf_2_1 (d := d + 4) hE1 hE3) ?_
  refine kx_st 0 (pc' := 9) (L' := [some (.ref 53), some (.int 1), some (.int x), some (.int (nI dp))]) (st' := [.int 30, .ref 53]) (h' := kv_wd g w) rfl ?_
  refine kx_st 4 (pc' := 13) (L' := [some (.ref 53), some (.int 1), some (.int x), some (.int (nI dp))]) (st' := [.int ((nI dp) + 1), .int x, .int 30, .ref 53]) (h' := kv_wd g w) rfl ?_
  refine kx_call (z := 79) (as := [.ref 53, .int 30, .int x, .int ((nI dp) + 1)]) (rest := []) (v := some (.int (((x + N) * 2) - (1 - M)))) (h1 := kv_wd (kx_nx g c [30, 11, 10, 12]) w) rfl (by rw [← nI_succ]; exact ev_run_2_30 (d := d + 0) hE1 hE3 N M c hs h40 x (dp + 1) (by omega)) ?_
  refine kx_st 0 (pc' := 16) (L' := [some (.ref 53), some (.int 1), some (.int x), some (.int (nI dp))]) (st' := [.int (((x + N) * 2) - (1 - M))]) (h' := kv_wd (kx_nx g c [30, 11, 10, 12]) w) rfl ?_
  refine kx_ret (v := some (.int (((x + N) * 2) - (1 - M)))) rfl ?_
  exact ⟨rfl, rfl⟩
set_option maxRecDepth 100000 in
theorem ev_run_2_13 {E : kv_V} {d : Nat} {g : kv_S} {w : kv_W} (hE1 : E 1001 = some (0, 7, kv_KA)) (hE3 : E 1003 = some (0, 28, kv_BO)) (N M : Int32) (c : Nat) (hs : kx_VS g c N M 2) (h40 : c + 6 ≤ 40) (x : Int32) (dp : Nat) (hd : dp + 3 ≤ 20) : kv_ev E (d + 8) 79 [.ref 53, .int 13, .int x, .int (nI dp)] (kv_wd g w) (some (.int ((((x + N) * 2) - (1 - M)) ^^^ (x - M)))) (kv_wd (kx_nx g c [13, 30, 11, 10, 12, 12]) w) := by
  refine kx_ev (d := d + 7) (by decide) (Nat.le_of_ble_eq_true rfl) ?_
  refine kx_st 0 (pc' := 0) (L' := [some (.ref 53), some (.int 13), some (.int x), some (.int (nI dp))]) (st' := []) (h' := kv_wd g w) rfl ?_
  refine kx_st 2 (pc' := 3) (L' := [some (.ref 53), some (.int 13), some (.int x), some (.int (nI dp))]) (st' := [.int 20, .int (nI dp)]) (h' := kv_wd g w) rfl ?_
  refine kx_bi (t := 8) rfl rfl (fun (h3 : nI dp ≤ 20) => ?_) (fun (h3 : ¬ (nI dp ≤ 20)) => ?_)
  · refine kx_st 2 (pc' := 10) (L' := [some (.ref 53), some (.int 13), some (.int x), some (.int (nI dp))]) (st' := [.int 13, .ref 53]) (h' := kv_wd g w) rfl ?_
    refine kx_call (z := 76) (as := [.ref 53, .int 13]) (rest := []) (v := none) (h1 := kv_wd (kx_nx g c [13]) w) rfl (ev_note (d := d + 6) c hs.1 (by omega) 13) ?_
    refine kx_st 0 (pc' := 13) (L' := [some (.ref 53), some (.int 13), some (.int x), some (.int (nI dp))]) (st' := []) (h' := kv_wd (kx_nx g c [13]) w) rfl ?_
    refine kx_st 6 (pc' := 140) (L' := [some (.ref 53), some (.int 13), some (.int x), some (.int (nI dp))]) (st' := [.int (nI dp), .int x, .int 1, .ref 53]) (h' := kv_wd (kx_nx g c [13]) w) rfl ?_
    refine kx_call (z := 77) (as := [.ref 53, .int 1, .int x, .int (nI dp)]) (rest := []) (v := some (.int (((x + N) * 2) - (1 - M)))) (h1 := kv_wd (kx_nx g c [13, 30, 11, 10, 12]) w) rfl (by rw [← show kx_nx (kx_nx g c [13]) (c + 1) [30, 11, 10, 12] = kx_nx g c [13, 30, 11, 10, 12] from kx_nx_app g c [13] [30, 11, 10, 12]]; exact ev_own_2_1 (d := d + 0) (g := kx_nx g c [13]) hE1 hE3 N M (c + 1) (kx_VS_nx [13] hs) (by omega) x dp (by omega)) ?_
    refine kx_st 0 (pc' := 143) (L' := [some (.ref 53), some (.int 13), some (.int x), some (.int (nI dp))]) (st' := [.int (((x + N) * 2) - (1 - M))]) (h' := kv_wd (kx_nx g c [13, 30, 11, 10, 12]) w) rfl ?_
    refine kx_st 4 (pc' := 147) (L' := [some (.ref 53), some (.int 13), some (.int x), some (.int (nI dp))]) (st' := [.int (nI dp), .int x, .int 2, .ref 53, .int (((x + N) * 2) - (1 - M))]) (h' := kv_wd (kx_nx g c [13, 30, 11, 10, 12]) w) rfl ?_
    refine kx_call (z := 77) (as := [.ref 53, .int 2, .int x, .int (nI dp)]) (rest := [.int (((x + N) * 2) - (1 - M))]) (v := some (.int (x - M))) (h1 := kv_wd (kx_nx g c [13, 30, 11, 10, 12, 12]) w) rfl (by rw [← show kx_nx (kx_nx g c [13, 30, 11, 10, 12]) (c + 5) [12] = kx_nx g c [13, 30, 11, 10, 12, 12] from kx_nx_app g c [13, 30, 11, 10, 12] [12]]; exact ev_own_2_2 (d := d + 4) (g := kx_nx g c [13, 30, 11, 10, 12]) hE1 hE3 N M (c + 5) (kx_VS_nx [13, 30, 11, 10, 12] hs) (by omega) x dp (by omega)) ?_
    refine kx_st 0 (pc' := 150) (L' := [some (.ref 53), some (.int 13), some (.int x), some (.int (nI dp))]) (st' := [.int (x - M), .int (((x + N) * 2) - (1 - M))]) (h' := kv_wd (kx_nx g c [13, 30, 11, 10, 12, 12]) w) rfl ?_
    refine kx_st 1 (pc' := 151) (L' := [some (.ref 53), some (.int 13), some (.int x), some (.int (nI dp))]) (st' := [.int ((((x + N) * 2) - (1 - M)) ^^^ (x - M))]) (h' := kv_wd (kx_nx g c [13, 30, 11, 10, 12, 12]) w) rfl ?_
    refine kx_ret (v := some (.int ((((x + N) * 2) - (1 - M)) ^^^ (x - M)))) rfl ?_
    exact ⟨rfl, rfl⟩
  · exact absurd (nI_le (a := dp) (b := 20) (by omega) (by omega)) h3
set_option maxRecDepth 100000 in
theorem ev_own_2_3 {E : kv_V} {d : Nat} {g : kv_S} {w : kv_W} (hE1 : E 1001 = some (0, 7, kv_KA)) (hE3 : E 1003 = some (0, 28, kv_BO)) (N M : Int32) (c : Nat) (hs : kx_VS g c N M 2) (h40 : c + 6 ≤ 40) (x : Int32) (dp : Nat) (hd : dp + 4 ≤ 20) : kv_ev E (d + 9) 77 [.ref 53, .int 3, .int x, .int (nI dp)] (kv_wd g w) (some (.int ((((x + N) * 2) - (1 - M)) ^^^ (x - M)))) (kv_wd (kx_nx g c [13, 30, 11, 10, 12, 12]) w) := by
  refine kx_ev (d := d + 8) (by decide) (Nat.le_of_ble_eq_true rfl) ?_
  refine kx_st 0 (pc' := 0) (L' := [some (.ref 53), some (.int 3), some (.int x), some (.int (nI dp))]) (st' := []) (h' := kv_wd g w) rfl ?_
  refine kx_st 4 (pc' := 6) (L' := [some (.ref 53), some (.int 3), some (.int x), some (.int (nI dp))]) (st' := [.int 3, .int (g 53 4), .ref 53]) (h' := kv_wd g w) rfl ?_
  refine kx_call (z := 75) (as := [.int (g 53 4), .int 3]) (rest := [.ref 53]) (v := some (.int 13)) (h1 := kv_wd g w) rfl (by rw [show g 53 4 = 2 from hs.2.2.2]; exact ev_bodyOf_2_3 (d := d + 6) hE1 hE3) ?_
  refine kx_st 0 (pc' := 9) (L' := [some (.ref 53), some (.int 3), some (.int x), some (.int (nI dp))]) (st' := [.int 13, .ref 53]) (h' := kv_wd g w) rfl ?_
  refine kx_st 4 (pc' := 13) (L' := [some (.ref 53), some (.int 3), some (.int x), some (.int (nI dp))]) (st' := [.int ((nI dp) + 1), .int x, .int 13, .ref 53]) (h' := kv_wd g w) rfl ?_
  refine kx_call (z := 79) (as := [.ref 53, .int 13, .int x, .int ((nI dp) + 1)]) (rest := []) (v := some (.int ((((x + N) * 2) - (1 - M)) ^^^ (x - M)))) (h1 := kv_wd (kx_nx g c [13, 30, 11, 10, 12, 12]) w) rfl (by rw [← nI_succ]; exact ev_run_2_13 (d := d + 0) hE1 hE3 N M c hs h40 x (dp + 1) (by omega)) ?_
  refine kx_st 0 (pc' := 16) (L' := [some (.ref 53), some (.int 3), some (.int x), some (.int (nI dp))]) (st' := [.int ((((x + N) * 2) - (1 - M)) ^^^ (x - M))]) (h' := kv_wd (kx_nx g c [13, 30, 11, 10, 12, 12]) w) rfl ?_
  refine kx_ret (v := some (.int ((((x + N) * 2) - (1 - M)) ^^^ (x - M)))) rfl ?_
  exact ⟨rfl, rfl⟩
set_option maxRecDepth 100000 in
theorem ev_run_3_10 {E : kv_V} {d : Nat} {g : kv_S} {w : kv_W} (hE1 : E 1001 = some (0, 7, kv_KA)) (hE3 : E 1003 = some (0, 28, kv_BO)) (N M : Int32) (c : Nat) (hs : kx_VS g c N M 3) (h40 : c + 1 ≤ 40) (x : Int32) (dp : Nat) (hd : dp + 0 ≤ 20) : kv_ev E (d + 2) 79 [.ref 53, .int 10, .int x, .int (nI dp)] (kv_wd g w) (some (.int (x + N))) (kv_wd (kx_nx g c [10]) w) := by
  refine kx_ev (d := d + 1) (by decide) (Nat.le_of_ble_eq_true rfl) ?_
  refine kx_st 0 (pc' := 0) (L' := [some (.ref 53), some (.int 10), some (.int x), some (.int (nI dp))]) (st' := []) (h' := kv_wd g w) rfl ?_
  refine kx_st 2 (pc' := 3) (L' := [some (.ref 53), some (.int 10), some (.int x), some (.int (nI dp))]) (st' := [.int 20, .int (nI dp)]) (h' := kv_wd g w) rfl ?_
  refine kx_bi (t := 8) rfl rfl (fun (h3 : nI dp ≤ 20) => ?_) (fun (h3 : ¬ (nI dp ≤ 20)) => ?_)
  · refine kx_st 2 (pc' := 10) (L' := [some (.ref 53), some (.int 10), some (.int x), some (.int (nI dp))]) (st' := [.int 10, .ref 53]) (h' := kv_wd g w) rfl ?_
    refine kx_call (z := 76) (as := [.ref 53, .int 10]) (rest := []) (v := none) (h1 := kv_wd (kx_nx g c [10]) w) rfl (ev_note (d := d + 0) c hs.1 (by omega) 10) ?_
    refine kx_st 0 (pc' := 13) (L' := [some (.ref 53), some (.int 10), some (.int x), some (.int (nI dp))]) (st' := []) (h' := kv_wd (kx_nx g c [10]) w) rfl ?_
    refine kx_st 6 (pc' := 118) (L' := [some (.ref 53), some (.int 10), some (.int x), some (.int (nI dp))]) (st' := [.int (x + ((kx_nx g c [10]) 53 2))]) (h' := kv_wd (kx_nx g c [10]) w) rfl ?_
    refine kx_ret (v := some (.int (x + ((kx_nx g c [10]) 53 2)))) rfl ?_
    exact ⟨by rw [show (kx_nx g c [10]) 53 2 = N from (kx_VS_nx [10] hs).2.1], rfl⟩
  · exact absurd (nI_le (a := dp) (b := 20) (by omega) (by omega)) h3
set_option maxRecDepth 100000 in
theorem ev_own_3_0 {E : kv_V} {d : Nat} {g : kv_S} {w : kv_W} (hE1 : E 1001 = some (0, 7, kv_KA)) (hE3 : E 1003 = some (0, 28, kv_BO)) (N M : Int32) (c : Nat) (hs : kx_VS g c N M 3) (h40 : c + 1 ≤ 40) (x : Int32) (dp : Nat) (hd : dp + 1 ≤ 20) : kv_ev E (d + 3) 77 [.ref 53, .int 0, .int x, .int (nI dp)] (kv_wd g w) (some (.int (x + N))) (kv_wd (kx_nx g c [10]) w) := by
  refine kx_ev (d := d + 2) (by decide) (Nat.le_of_ble_eq_true rfl) ?_
  refine kx_st 0 (pc' := 0) (L' := [some (.ref 53), some (.int 0), some (.int x), some (.int (nI dp))]) (st' := []) (h' := kv_wd g w) rfl ?_
  refine kx_st 4 (pc' := 6) (L' := [some (.ref 53), some (.int 0), some (.int x), some (.int (nI dp))]) (st' := [.int 0, .int (g 53 4), .ref 53]) (h' := kv_wd g w) rfl ?_
  refine kx_call (z := 75) (as := [.int (g 53 4), .int 0]) (rest := [.ref 53]) (v := some (.int 10)) (h1 := kv_wd g w) rfl (by rw [show g 53 4 = 3 from hs.2.2.2]; exact ev_bodyOf_3_0 (d := d + 0) hE1 hE3) ?_
  refine kx_st 0 (pc' := 9) (L' := [some (.ref 53), some (.int 0), some (.int x), some (.int (nI dp))]) (st' := [.int 10, .ref 53]) (h' := kv_wd g w) rfl ?_
  refine kx_st 4 (pc' := 13) (L' := [some (.ref 53), some (.int 0), some (.int x), some (.int (nI dp))]) (st' := [.int ((nI dp) + 1), .int x, .int 10, .ref 53]) (h' := kv_wd g w) rfl ?_
  refine kx_call (z := 79) (as := [.ref 53, .int 10, .int x, .int ((nI dp) + 1)]) (rest := []) (v := some (.int (x + N))) (h1 := kv_wd (kx_nx g c [10]) w) rfl (by rw [← nI_succ]; exact ev_run_3_10 (d := d + 0) hE1 hE3 N M c hs h40 x (dp + 1) (by omega)) ?_
  refine kx_st 0 (pc' := 16) (L' := [some (.ref 53), some (.int 0), some (.int x), some (.int (nI dp))]) (st' := [.int (x + N)]) (h' := kv_wd (kx_nx g c [10]) w) rfl ?_
  refine kx_ret (v := some (.int (x + N))) rfl ?_
  exact ⟨rfl, rfl⟩
set_option maxRecDepth 100000 in
theorem ev_run_3_11 {E : kv_V} {d : Nat} {g : kv_S} {w : kv_W} (hE1 : E 1001 = some (0, 7, kv_KA)) (hE3 : E 1003 = some (0, 28, kv_BO)) (N M : Int32) (c : Nat) (hs : kx_VS g c N M 3) (h40 : c + 2 ≤ 40) (x : Int32) (dp : Nat) (hd : dp + 1 ≤ 20) : kv_ev E (d + 4) 79 [.ref 53, .int 11, .int x, .int (nI dp)] (kv_wd g w) (some (.int ((x + N) * 2))) (kv_wd (kx_nx g c [11, 10]) w) := by
  refine kx_ev (d := d + 3) (by decide) (Nat.le_of_ble_eq_true rfl) ?_
  refine kx_st 0 (pc' := 0) (L' := [some (.ref 53), some (.int 11), some (.int x), some (.int (nI dp))]) (st' := []) (h' := kv_wd g w) rfl ?_
  refine kx_st 2 (pc' := 3) (L' := [some (.ref 53), some (.int 11), some (.int x), some (.int (nI dp))]) (st' := [.int 20, .int (nI dp)]) (h' := kv_wd g w) rfl ?_
  refine kx_bi (t := 8) rfl rfl (fun (h3 : nI dp ≤ 20) => ?_) (fun (h3 : ¬ (nI dp ≤ 20)) => ?_)
  · refine kx_st 2 (pc' := 10) (L' := [some (.ref 53), some (.int 11), some (.int x), some (.int (nI dp))]) (st' := [.int 11, .ref 53]) (h' := kv_wd g w) rfl ?_
    refine kx_call (z := 76) (as := [.ref 53, .int 11]) (rest := []) (v := none) (h1 := kv_wd (kx_nx g c [11]) w) rfl (ev_note (d := d + 2) c hs.1 (by omega) 11) ?_
    refine kx_st 0 (pc' := 13) (L' := [some (.ref 53), some (.int 11), some (.int x), some (.int (nI dp))]) (st' := []) (h' := kv_wd (kx_nx g c [11]) w) rfl ?_
    refine kx_st 6 (pc' := 123) (L' := [some (.ref 53), some (.int 11), some (.int x), some (.int (nI dp))]) (st' := [.int (nI dp), .int x, .int 0, .ref 53]) (h' := kv_wd (kx_nx g c [11]) w) rfl ?_
    refine kx_call (z := 77) (as := [.ref 53, .int 0, .int x, .int (nI dp)]) (rest := []) (v := some (.int (x + N))) (h1 := kv_wd (kx_nx g c [11, 10]) w) rfl (by rw [← show kx_nx (kx_nx g c [11]) (c + 1) [10] = kx_nx g c [11, 10] from kx_nx_app g c [11] [10]]; exact ev_own_3_0 (d := d + 0) (g := kx_nx g c [11]) hE1 hE3 N M (c + 1) (kx_VS_nx [11] hs) (by omega) x dp (by omega)) ?_
    refine kx_st 0 (pc' := 126) (L' := [some (.ref 53), some (.int 11), some (.int x), some (.int (nI dp))]) (st' := [.int (x + N)]) (h' := kv_wd (kx_nx g c [11, 10]) w) rfl ?_
    refine kx_st 2 (pc' := 128) (L' := [some (.ref 53), some (.int 11), some (.int x), some (.int (nI dp))]) (st' := [.int ((x + N) * 2)]) (h' := kv_wd (kx_nx g c [11, 10]) w) rfl ?_
    refine kx_ret (v := some (.int ((x + N) * 2))) rfl ?_
    exact ⟨rfl, rfl⟩
  · exact absurd (nI_le (a := dp) (b := 20) (by omega) (by omega)) h3
set_option maxRecDepth 100000 in
theorem ev_own_3_1 {E : kv_V} {d : Nat} {g : kv_S} {w : kv_W} (hE1 : E 1001 = some (0, 7, kv_KA)) (hE3 : E 1003 = some (0, 28, kv_BO)) (N M : Int32) (c : Nat) (hs : kx_VS g c N M 3) (h40 : c + 2 ≤ 40) (x : Int32) (dp : Nat) (hd : dp + 2 ≤ 20) : kv_ev E (d + 5) 77 [.ref 53, .int 1, .int x, .int (nI dp)] (kv_wd g w) (some (.int ((x + N) * 2))) (kv_wd (kx_nx g c [11, 10]) w) := by
  refine kx_ev (d := d + 4) (by decide) (Nat.le_of_ble_eq_true rfl) ?_
  refine kx_st 0 (pc' := 0) (L' := [some (.ref 53), some (.int 1), some (.int x), some (.int (nI dp))]) (st' := []) (h' := kv_wd g w) rfl ?_
  refine kx_st 4 (pc' := 6) (L' := [some (.ref 53), some (.int 1), some (.int x), some (.int (nI dp))]) (st' := [.int 1, .int (g 53 4), .ref 53]) (h' := kv_wd g w) rfl ?_
  refine kx_call (z := 75) (as := [.int (g 53 4), .int 1]) (rest := [.ref 53]) (v := some (.int 11)) (h1 := kv_wd g w) rfl (by rw [show g 53 4 = 3 from hs.2.2.2]; exact ev_bodyOf_3_1 (d := d + 2) hE1 hE3) ?_
  refine kx_st 0 (pc' := 9) (L' := [some (.ref 53), some (.int 1), some (.int x), some (.int (nI dp))]) (st' := [.int 11, .ref 53]) (h' := kv_wd g w) rfl ?_
  refine kx_st 4 (pc' := 13) (L' := [some (.ref 53), some (.int 1), some (.int x), some (.int (nI dp))]) (st' := [.int ((nI dp) + 1), .int x, .int 11, .ref 53]) (h' := kv_wd g w) rfl ?_
  refine kx_call (z := 79) (as := [.ref 53, .int 11, .int x, .int ((nI dp) + 1)]) (rest := []) (v := some (.int ((x + N) * 2))) (h1 := kv_wd (kx_nx g c [11, 10]) w) rfl (by rw [← nI_succ]; exact ev_run_3_11 (d := d + 0) hE1 hE3 N M c hs h40 x (dp + 1) (by omega)) ?_
  refine kx_st 0 (pc' := 16) (L' := [some (.ref 53), some (.int 1), some (.int x), some (.int (nI dp))]) (st' := [.int ((x + N) * 2)]) (h' := kv_wd (kx_nx g c [11, 10]) w) rfl ?_
  refine kx_ret (v := some (.int ((x + N) * 2))) rfl ?_
  exact ⟨rfl, rfl⟩
set_option maxRecDepth 100000 in
theorem ev_run_3_12 {E : kv_V} {d : Nat} {g : kv_S} {w : kv_W} (hE1 : E 1001 = some (0, 7, kv_KA)) (hE3 : E 1003 = some (0, 28, kv_BO)) (N M : Int32) (c : Nat) (hs : kx_VS g c N M 3) (h40 : c + 1 ≤ 40) (x : Int32) (dp : Nat) (hd : dp + 0 ≤ 20) : kv_ev E (d + 2) 79 [.ref 53, .int 12, .int x, .int (nI dp)] (kv_wd g w) (some (.int (x - M))) (kv_wd (kx_nx g c [12]) w) := by
  refine kx_ev (d := d + 1) (by decide) (Nat.le_of_ble_eq_true rfl) ?_
  refine kx_st 0 (pc' := 0) (L' := [some (.ref 53), some (.int 12), some (.int x), some (.int (nI dp))]) (st' := []) (h' := kv_wd g w) rfl ?_
  refine kx_st 2 (pc' := 3) (L' := [some (.ref 53), some (.int 12), some (.int x), some (.int (nI dp))]) (st' := [.int 20, .int (nI dp)]) (h' := kv_wd g w) rfl ?_
  refine kx_bi (t := 8) rfl rfl (fun (h3 : nI dp ≤ 20) => ?_) (fun (h3 : ¬ (nI dp ≤ 20)) => ?_)
  · refine kx_st 2 (pc' := 10) (L' := [some (.ref 53), some (.int 12), some (.int x), some (.int (nI dp))]) (st' := [.int 12, .ref 53]) (h' := kv_wd g w) rfl ?_
    refine kx_call (z := 76) (as := [.ref 53, .int 12]) (rest := []) (v := none) (h1 := kv_wd (kx_nx g c [12]) w) rfl (ev_note (d := d + 0) c hs.1 (by omega) 12) ?_
    refine kx_st 0 (pc' := 13) (L' := [some (.ref 53), some (.int 12), some (.int x), some (.int (nI dp))]) (st' := []) (h' := kv_wd (kx_nx g c [12]) w) rfl ?_
    refine kx_st 6 (pc' := 135) (L' := [some (.ref 53), some (.int 12), some (.int x), some (.int (nI dp))]) (st' := [.int (x - ((kx_nx g c [12]) 53 3))]) (h' := kv_wd (kx_nx g c [12]) w) rfl ?_
    refine kx_ret (v := some (.int (x - ((kx_nx g c [12]) 53 3)))) rfl ?_
    exact ⟨by rw [show (kx_nx g c [12]) 53 3 = M from (kx_VS_nx [12] hs).2.2.1], rfl⟩
  · exact absurd (nI_le (a := dp) (b := 20) (by omega) (by omega)) h3
set_option maxRecDepth 100000 in
theorem ev_abv_3_3_2 {E : kv_V} {d : Nat} {g : kv_S} {w : kv_W} (hE1 : E 1001 = some (0, 7, kv_KA)) (hE3 : E 1003 = some (0, 28, kv_BO)) (N M : Int32) (c : Nat) (hs : kx_VS g c N M 3) (h40 : c + 1 ≤ 40) (x : Int32) (dp : Nat) (hd : dp + 1 ≤ 20) : kv_ev E (d + 3) 78 [.ref 53, .int 3, .int 2, .int x, .int (nI dp)] (kv_wd g w) (some (.int (x - M))) (kv_wd (kx_nx g c [12]) w) := by
  refine kx_ev (d := d + 2) (by decide) (Nat.le_of_ble_eq_true rfl) ?_
  refine kx_st 0 (pc' := 0) (L' := [some (.ref 53), some (.int 3), some (.int 2), some (.int x), some (.int (nI dp))]) (st' := []) (h' := kv_wd g w) rfl ?_
  refine kx_st 2 (pc' := 2) (L' := [some (.ref 53), some (.int 3), some (.int 2), some (.int x), some (.int (nI dp))]) (st' := [.int 3, .ref 53]) (h' := kv_wd g w) rfl ?_
  refine kx_call (z := 28) (as := [.int 3]) (rest := [.ref 53]) (v := some (.int 0)) (h1 := kv_wd g w) rfl (ev_above_3 (d := d + 1) hE1) ?_
  refine kx_st 0 (pc' := 5) (L' := [some (.ref 53), some (.int 3), some (.int 2), some (.int x), some (.int (nI dp))]) (st' := [.int 0, .ref 53]) (h' := kv_wd g w) rfl ?_
  refine kx_st 1 (pc' := 6) (L' := [some (.ref 53), some (.int 3), some (.int 2), some (.int x), some (.int (nI dp))]) (st' := [.int 2, .int 0, .ref 53]) (h' := kv_wd g w) rfl ?_
  refine kx_call (z := 75) (as := [.int 0, .int 2]) (rest := [.ref 53]) (v := some (.int 12)) (h1 := kv_wd g w) rfl (ev_bodyOf_0_2 (d := d + 0) hE1 hE3) ?_
  refine kx_st 0 (pc' := 9) (L' := [some (.ref 53), some (.int 3), some (.int 2), some (.int x), some (.int (nI dp))]) (st' := [.int 12, .ref 53]) (h' := kv_wd g w) rfl ?_
  refine kx_st 4 (pc' := 14) (L' := [some (.ref 53), some (.int 3), some (.int 2), some (.int x), some (.int (nI dp))]) (st' := [.int ((nI dp) + 1), .int x, .int 12, .ref 53]) (h' := kv_wd g w) rfl ?_
  refine kx_call (z := 79) (as := [.ref 53, .int 12, .int x, .int ((nI dp) + 1)]) (rest := []) (v := some (.int (x - M))) (h1 := kv_wd (kx_nx g c [12]) w) rfl (by rw [← nI_succ]; exact ev_run_3_12 (d := d + 0) hE1 hE3 N M c hs h40 x (dp + 1) (by omega)) ?_
  refine kx_st 0 (pc' := 17) (L' := [some (.ref 53), some (.int 3), some (.int 2), some (.int x), some (.int (nI dp))]) (st' := [.int (x - M)]) (h' := kv_wd (kx_nx g c [12]) w) rfl ?_
  refine kx_ret (v := some (.int (x - M))) rfl ?_
  exact ⟨rfl, rfl⟩
set_option maxRecDepth 100000 in
theorem ev_run_3_40 {E : kv_V} {d : Nat} {g : kv_S} {w : kv_W} (hE1 : E 1001 = some (0, 7, kv_KA)) (hE3 : E 1003 = some (0, 28, kv_BO)) (N M : Int32) (c : Nat) (hs : kx_VS g c N M 3) (h40 : c + 2 ≤ 40) (x : Int32) (dp : Nat) (hd : dp + 1 ≤ 20) : kv_ev E (d + 4) 79 [.ref 53, .int 40, .int x, .int (nI dp)] (kv_wd g w) (some (.int (-(x - M)))) (kv_wd (kx_nx g c [40, 12]) w) := by
  refine kx_ev (d := d + 3) (by decide) (Nat.le_of_ble_eq_true rfl) ?_
  refine kx_st 0 (pc' := 0) (L' := [some (.ref 53), some (.int 40), some (.int x), some (.int (nI dp))]) (st' := []) (h' := kv_wd g w) rfl ?_
  refine kx_st 2 (pc' := 3) (L' := [some (.ref 53), some (.int 40), some (.int x), some (.int (nI dp))]) (st' := [.int 20, .int (nI dp)]) (h' := kv_wd g w) rfl ?_
  refine kx_bi (t := 8) rfl rfl (fun (h3 : nI dp ≤ 20) => ?_) (fun (h3 : ¬ (nI dp ≤ 20)) => ?_)
  · refine kx_st 2 (pc' := 10) (L' := [some (.ref 53), some (.int 40), some (.int x), some (.int (nI dp))]) (st' := [.int 40, .ref 53]) (h' := kv_wd g w) rfl ?_
    refine kx_call (z := 76) (as := [.ref 53, .int 40]) (rest := []) (v := none) (h1 := kv_wd (kx_nx g c [40]) w) rfl (ev_note (d := d + 2) c hs.1 (by omega) 40) ?_
    refine kx_st 0 (pc' := 13) (L' := [some (.ref 53), some (.int 40), some (.int x), some (.int (nI dp))]) (st' := []) (h' := kv_wd (kx_nx g c [40]) w) rfl ?_
    refine kx_st 7 (pc' := 185) (L' := [some (.ref 53), some (.int 40), some (.int x), some (.int (nI dp))]) (st' := [.int (nI dp), .int x, .int 2, .int 3, .ref 53]) (h' := kv_wd (kx_nx g c [40]) w) rfl ?_
    refine kx_call (z := 78) (as := [.ref 53, .int 3, .int 2, .int x, .int (nI dp)]) (rest := []) (v := some (.int (x - M))) (h1 := kv_wd (kx_nx g c [40, 12]) w) rfl (by rw [← show kx_nx (kx_nx g c [40]) (c + 1) [12] = kx_nx g c [40, 12] from kx_nx_app g c [40] [12]]; exact ev_abv_3_3_2 (d := d + 0) (g := kx_nx g c [40]) hE1 hE3 N M (c + 1) (kx_VS_nx [40] hs) (by omega) x dp (by omega)) ?_
    refine kx_st 0 (pc' := 188) (L' := [some (.ref 53), some (.int 40), some (.int x), some (.int (nI dp))]) (st' := [.int (x - M)]) (h' := kv_wd (kx_nx g c [40, 12]) w) rfl ?_
    refine kx_st 1 (pc' := 189) (L' := [some (.ref 53), some (.int 40), some (.int x), some (.int (nI dp))]) (st' := [.int (-(x - M))]) (h' := kv_wd (kx_nx g c [40, 12]) w) rfl ?_
    refine kx_ret (v := some (.int (-(x - M)))) rfl ?_
    exact ⟨rfl, rfl⟩
  · exact absurd (nI_le (a := dp) (b := 20) (by omega) (by omega)) h3
set_option maxRecDepth 100000 in
theorem ev_own_3_2 {E : kv_V} {d : Nat} {g : kv_S} {w : kv_W} (hE1 : E 1001 = some (0, 7, kv_KA)) (hE3 : E 1003 = some (0, 28, kv_BO)) (N M : Int32) (c : Nat) (hs : kx_VS g c N M 3) (h40 : c + 2 ≤ 40) (x : Int32) (dp : Nat) (hd : dp + 2 ≤ 20) : kv_ev E (d + 5) 77 [.ref 53, .int 2, .int x, .int (nI dp)] (kv_wd g w) (some (.int (-(x - M)))) (kv_wd (kx_nx g c [40, 12]) w) := by
  refine kx_ev (d := d + 4) (by decide) (Nat.le_of_ble_eq_true rfl) ?_
  refine kx_st 0 (pc' := 0) (L' := [some (.ref 53), some (.int 2), some (.int x), some (.int (nI dp))]) (st' := []) (h' := kv_wd g w) rfl ?_
  refine kx_st 4 (pc' := 6) (L' := [some (.ref 53), some (.int 2), some (.int x), some (.int (nI dp))]) (st' := [.int 2, .int (g 53 4), .ref 53]) (h' := kv_wd g w) rfl ?_
  refine kx_call (z := 75) (as := [.int (g 53 4), .int 2]) (rest := [.ref 53]) (v := some (.int 40)) (h1 := kv_wd g w) rfl (by rw [show g 53 4 = 3 from hs.2.2.2]; exact ev_bodyOf_3_2 (d := d + 2) hE1 hE3) ?_
  refine kx_st 0 (pc' := 9) (L' := [some (.ref 53), some (.int 2), some (.int x), some (.int (nI dp))]) (st' := [.int 40, .ref 53]) (h' := kv_wd g w) rfl ?_
  refine kx_st 4 (pc' := 13) (L' := [some (.ref 53), some (.int 2), some (.int x), some (.int (nI dp))]) (st' := [.int ((nI dp) + 1), .int x, .int 40, .ref 53]) (h' := kv_wd g w) rfl ?_
  refine kx_call (z := 79) (as := [.ref 53, .int 40, .int x, .int ((nI dp) + 1)]) (rest := []) (v := some (.int (-(x - M)))) (h1 := kv_wd (kx_nx g c [40, 12]) w) rfl (by rw [← nI_succ]; exact ev_run_3_40 (d := d + 0) hE1 hE3 N M c hs h40 x (dp + 1) (by omega)) ?_
  refine kx_st 0 (pc' := 16) (L' := [some (.ref 53), some (.int 2), some (.int x), some (.int (nI dp))]) (st' := [.int (-(x - M))]) (h' := kv_wd (kx_nx g c [40, 12]) w) rfl ?_
  refine kx_ret (v := some (.int (-(x - M)))) rfl ?_
  exact ⟨rfl, rfl⟩
set_option maxRecDepth 100000 in
theorem ev_run_3_13 {E : kv_V} {d : Nat} {g : kv_S} {w : kv_W} (hE1 : E 1001 = some (0, 7, kv_KA)) (hE3 : E 1003 = some (0, 28, kv_BO)) (N M : Int32) (c : Nat) (hs : kx_VS g c N M 3) (h40 : c + 5 ≤ 40) (x : Int32) (dp : Nat) (hd : dp + 2 ≤ 20) : kv_ev E (d + 6) 79 [.ref 53, .int 13, .int x, .int (nI dp)] (kv_wd g w) (some (.int (((x + N) * 2) ^^^ (-(x - M))))) (kv_wd (kx_nx g c [13, 11, 10, 40, 12]) w) := by
  refine kx_ev (d := d + 5) (by decide) (Nat.le_of_ble_eq_true rfl) ?_
  refine kx_st 0 (pc' := 0) (L' := [some (.ref 53), some (.int 13), some (.int x), some (.int (nI dp))]) (st' := []) (h' := kv_wd g w) rfl ?_
  refine kx_st 2 (pc' := 3) (L' := [some (.ref 53), some (.int 13), some (.int x), some (.int (nI dp))]) (st' := [.int 20, .int (nI dp)]) (h' := kv_wd g w) rfl ?_
  refine kx_bi (t := 8) rfl rfl (fun (h3 : nI dp ≤ 20) => ?_) (fun (h3 : ¬ (nI dp ≤ 20)) => ?_)
  · refine kx_st 2 (pc' := 10) (L' := [some (.ref 53), some (.int 13), some (.int x), some (.int (nI dp))]) (st' := [.int 13, .ref 53]) (h' := kv_wd g w) rfl ?_
    refine kx_call (z := 76) (as := [.ref 53, .int 13]) (rest := []) (v := none) (h1 := kv_wd (kx_nx g c [13]) w) rfl (ev_note (d := d + 4) c hs.1 (by omega) 13) ?_
    refine kx_st 0 (pc' := 13) (L' := [some (.ref 53), some (.int 13), some (.int x), some (.int (nI dp))]) (st' := []) (h' := kv_wd (kx_nx g c [13]) w) rfl ?_
    refine kx_st 6 (pc' := 140) (L' := [some (.ref 53), some (.int 13), some (.int x), some (.int (nI dp))]) (st' := [.int (nI dp), .int x, .int 1, .ref 53]) (h' := kv_wd (kx_nx g c [13]) w) rfl ?_
    refine kx_call (z := 77) (as := [.ref 53, .int 1, .int x, .int (nI dp)]) (rest := []) (v := some (.int ((x + N) * 2))) (h1 := kv_wd (kx_nx g c [13, 11, 10]) w) rfl (by rw [← show kx_nx (kx_nx g c [13]) (c + 1) [11, 10] = kx_nx g c [13, 11, 10] from kx_nx_app g c [13] [11, 10]]; exact ev_own_3_1 (d := d + 0) (g := kx_nx g c [13]) hE1 hE3 N M (c + 1) (kx_VS_nx [13] hs) (by omega) x dp (by omega)) ?_
    refine kx_st 0 (pc' := 143) (L' := [some (.ref 53), some (.int 13), some (.int x), some (.int (nI dp))]) (st' := [.int ((x + N) * 2)]) (h' := kv_wd (kx_nx g c [13, 11, 10]) w) rfl ?_
    refine kx_st 4 (pc' := 147) (L' := [some (.ref 53), some (.int 13), some (.int x), some (.int (nI dp))]) (st' := [.int (nI dp), .int x, .int 2, .ref 53, .int ((x + N) * 2)]) (h' := kv_wd (kx_nx g c [13, 11, 10]) w) rfl ?_
    refine kx_call (z := 77) (as := [.ref 53, .int 2, .int x, .int (nI dp)]) (rest := [.int ((x + N) * 2)]) (v := some (.int (-(x - M)))) (h1 := kv_wd (kx_nx g c [13, 11, 10, 40, 12]) w) rfl (by rw [← show kx_nx (kx_nx g c [13, 11, 10]) (c + 3) [40, 12] = kx_nx g c [13, 11, 10, 40, 12] from kx_nx_app g c [13, 11, 10] [40, 12]]; exact ev_own_3_2 (d := d + 0) (g := kx_nx g c [13, 11, 10]) hE1 hE3 N M (c + 3) (kx_VS_nx [13, 11, 10] hs) (by omega) x dp (by omega)) ?_
    refine kx_st 0 (pc' := 150) (L' := [some (.ref 53), some (.int 13), some (.int x), some (.int (nI dp))]) (st' := [.int (-(x - M)), .int ((x + N) * 2)]) (h' := kv_wd (kx_nx g c [13, 11, 10, 40, 12]) w) rfl ?_
    refine kx_st 1 (pc' := 151) (L' := [some (.ref 53), some (.int 13), some (.int x), some (.int (nI dp))]) (st' := [.int (((x + N) * 2) ^^^ (-(x - M)))]) (h' := kv_wd (kx_nx g c [13, 11, 10, 40, 12]) w) rfl ?_
    refine kx_ret (v := some (.int (((x + N) * 2) ^^^ (-(x - M))))) rfl ?_
    exact ⟨rfl, rfl⟩
  · exact absurd (nI_le (a := dp) (b := 20) (by omega) (by omega)) h3
set_option maxRecDepth 100000 in
theorem ev_own_3_3 {E : kv_V} {d : Nat} {g : kv_S} {w : kv_W} (hE1 : E 1001 = some (0, 7, kv_KA)) (hE3 : E 1003 = some (0, 28, kv_BO)) (N M : Int32) (c : Nat) (hs : kx_VS g c N M 3) (h40 : c + 5 ≤ 40) (x : Int32) (dp : Nat) (hd : dp + 3 ≤ 20) : kv_ev E (d + 7) 77 [.ref 53, .int 3, .int x, .int (nI dp)] (kv_wd g w) (some (.int (((x + N) * 2) ^^^ (-(x - M))))) (kv_wd (kx_nx g c [13, 11, 10, 40, 12]) w) := by
  refine kx_ev (d := d + 6) (by decide) (Nat.le_of_ble_eq_true rfl) ?_
  refine kx_st 0 (pc' := 0) (L' := [some (.ref 53), some (.int 3), some (.int x), some (.int (nI dp))]) (st' := []) (h' := kv_wd g w) rfl ?_
  refine kx_st 4 (pc' := 6) (L' := [some (.ref 53), some (.int 3), some (.int x), some (.int (nI dp))]) (st' := [.int 3, .int (g 53 4), .ref 53]) (h' := kv_wd g w) rfl ?_
  refine kx_call (z := 75) (as := [.int (g 53 4), .int 3]) (rest := [.ref 53]) (v := some (.int 13)) (h1 := kv_wd g w) rfl (by rw [show g 53 4 = 3 from hs.2.2.2]; exact ev_bodyOf_3_3 (d := d + 4) hE1 hE3) ?_
  refine kx_st 0 (pc' := 9) (L' := [some (.ref 53), some (.int 3), some (.int x), some (.int (nI dp))]) (st' := [.int 13, .ref 53]) (h' := kv_wd g w) rfl ?_
  refine kx_st 4 (pc' := 13) (L' := [some (.ref 53), some (.int 3), some (.int x), some (.int (nI dp))]) (st' := [.int ((nI dp) + 1), .int x, .int 13, .ref 53]) (h' := kv_wd g w) rfl ?_
  refine kx_call (z := 79) (as := [.ref 53, .int 13, .int x, .int ((nI dp) + 1)]) (rest := []) (v := some (.int (((x + N) * 2) ^^^ (-(x - M))))) (h1 := kv_wd (kx_nx g c [13, 11, 10, 40, 12]) w) rfl (by rw [← nI_succ]; exact ev_run_3_13 (d := d + 0) hE1 hE3 N M c hs h40 x (dp + 1) (by omega)) ?_
  refine kx_st 0 (pc' := 16) (L' := [some (.ref 53), some (.int 3), some (.int x), some (.int (nI dp))]) (st' := [.int (((x + N) * 2) ^^^ (-(x - M)))]) (h' := kv_wd (kx_nx g c [13, 11, 10, 40, 12]) w) rfl ?_
  refine kx_ret (v := some (.int (((x + N) * 2) ^^^ (-(x - M))))) rfl ?_
  exact ⟨rfl, rfl⟩
set_option maxRecDepth 100000 in
theorem ev_run_4_10 {E : kv_V} {d : Nat} {g : kv_S} {w : kv_W} (hE1 : E 1001 = some (0, 7, kv_KA)) (hE3 : E 1003 = some (0, 28, kv_BO)) (N M : Int32) (c : Nat) (hs : kx_VS g c N M 4) (h40 : c + 1 ≤ 40) (x : Int32) (dp : Nat) (hd : dp + 0 ≤ 20) : kv_ev E (d + 2) 79 [.ref 53, .int 10, .int x, .int (nI dp)] (kv_wd g w) (some (.int (x + N))) (kv_wd (kx_nx g c [10]) w) := by
  refine kx_ev (d := d + 1) (by decide) (Nat.le_of_ble_eq_true rfl) ?_
  refine kx_st 0 (pc' := 0) (L' := [some (.ref 53), some (.int 10), some (.int x), some (.int (nI dp))]) (st' := []) (h' := kv_wd g w) rfl ?_
  refine kx_st 2 (pc' := 3) (L' := [some (.ref 53), some (.int 10), some (.int x), some (.int (nI dp))]) (st' := [.int 20, .int (nI dp)]) (h' := kv_wd g w) rfl ?_
  refine kx_bi (t := 8) rfl rfl (fun (h3 : nI dp ≤ 20) => ?_) (fun (h3 : ¬ (nI dp ≤ 20)) => ?_)
  · refine kx_st 2 (pc' := 10) (L' := [some (.ref 53), some (.int 10), some (.int x), some (.int (nI dp))]) (st' := [.int 10, .ref 53]) (h' := kv_wd g w) rfl ?_
    refine kx_call (z := 76) (as := [.ref 53, .int 10]) (rest := []) (v := none) (h1 := kv_wd (kx_nx g c [10]) w) rfl (ev_note (d := d + 0) c hs.1 (by omega) 10) ?_
    refine kx_st 0 (pc' := 13) (L' := [some (.ref 53), some (.int 10), some (.int x), some (.int (nI dp))]) (st' := []) (h' := kv_wd (kx_nx g c [10]) w) rfl ?_
    refine kx_st 6 (pc' := 118) (L' := [some (.ref 53), some (.int 10), some (.int x), some (.int (nI dp))]) (st' := [.int (x + ((kx_nx g c [10]) 53 2))]) (h' := kv_wd (kx_nx g c [10]) w) rfl ?_
    refine kx_ret (v := some (.int (x + ((kx_nx g c [10]) 53 2)))) rfl ?_
    exact ⟨by rw [show (kx_nx g c [10]) 53 2 = N from (kx_VS_nx [10] hs).2.1], rfl⟩
  · exact absurd (nI_le (a := dp) (b := 20) (by omega) (by omega)) h3
set_option maxRecDepth 100000 in
theorem ev_abv_4_1_0 {E : kv_V} {d : Nat} {g : kv_S} {w : kv_W} (hE1 : E 1001 = some (0, 7, kv_KA)) (hE3 : E 1003 = some (0, 28, kv_BO)) (N M : Int32) (c : Nat) (hs : kx_VS g c N M 4) (h40 : c + 1 ≤ 40) (x : Int32) (dp : Nat) (hd : dp + 1 ≤ 20) : kv_ev E (d + 3) 78 [.ref 53, .int 1, .int 0, .int x, .int (nI dp)] (kv_wd g w) (some (.int (x + N))) (kv_wd (kx_nx g c [10]) w) := by
  refine kx_ev (d := d + 2) (by decide) (Nat.le_of_ble_eq_true rfl) ?_
  refine kx_st 0 (pc' := 0) (L' := [some (.ref 53), some (.int 1), some (.int 0), some (.int x), some (.int (nI dp))]) (st' := []) (h' := kv_wd g w) rfl ?_
  refine kx_st 2 (pc' := 2) (L' := [some (.ref 53), some (.int 1), some (.int 0), some (.int x), some (.int (nI dp))]) (st' := [.int 1, .ref 53]) (h' := kv_wd g w) rfl ?_
  refine kx_call (z := 28) (as := [.int 1]) (rest := [.ref 53]) (v := some (.int 0)) (h1 := kv_wd g w) rfl (ev_above_1 (d := d + 1) hE1) ?_
  refine kx_st 0 (pc' := 5) (L' := [some (.ref 53), some (.int 1), some (.int 0), some (.int x), some (.int (nI dp))]) (st' := [.int 0, .ref 53]) (h' := kv_wd g w) rfl ?_
  refine kx_st 1 (pc' := 6) (L' := [some (.ref 53), some (.int 1), some (.int 0), some (.int x), some (.int (nI dp))]) (st' := [.int 0, .int 0, .ref 53]) (h' := kv_wd g w) rfl ?_
  refine kx_call (z := 75) (as := [.int 0, .int 0]) (rest := [.ref 53]) (v := some (.int 10)) (h1 := kv_wd g w) rfl (ev_bodyOf_0_0 (d := d + 0) hE1 hE3) ?_
  refine kx_st 0 (pc' := 9) (L' := [some (.ref 53), some (.int 1), some (.int 0), some (.int x), some (.int (nI dp))]) (st' := [.int 10, .ref 53]) (h' := kv_wd g w) rfl ?_
  refine kx_st 4 (pc' := 14) (L' := [some (.ref 53), some (.int 1), some (.int 0), some (.int x), some (.int (nI dp))]) (st' := [.int ((nI dp) + 1), .int x, .int 10, .ref 53]) (h' := kv_wd g w) rfl ?_
  refine kx_call (z := 79) (as := [.ref 53, .int 10, .int x, .int ((nI dp) + 1)]) (rest := []) (v := some (.int (x + N))) (h1 := kv_wd (kx_nx g c [10]) w) rfl (by rw [← nI_succ]; exact ev_run_4_10 (d := d + 0) hE1 hE3 N M c hs h40 x (dp + 1) (by omega)) ?_
  refine kx_st 0 (pc' := 17) (L' := [some (.ref 53), some (.int 1), some (.int 0), some (.int x), some (.int (nI dp))]) (st' := [.int (x + N)]) (h' := kv_wd (kx_nx g c [10]) w) rfl ?_
  refine kx_ret (v := some (.int (x + N))) rfl ?_
  exact ⟨rfl, rfl⟩
set_option maxRecDepth 100000 in
theorem ev_run_4_20 {E : kv_V} {d : Nat} {g : kv_S} {w : kv_W} (hE1 : E 1001 = some (0, 7, kv_KA)) (hE3 : E 1003 = some (0, 28, kv_BO)) (N M : Int32) (c : Nat) (hs : kx_VS g c N M 4) (h40 : c + 2 ≤ 40) (x : Int32) (dp : Nat) (hd : dp + 1 ≤ 20) : kv_ev E (d + 4) 79 [.ref 53, .int 20, .int x, .int (nI dp)] (kv_wd g w) (some (.int ((x + N) * 3))) (kv_wd (kx_nx g c [20, 10]) w) := by
  refine kx_ev (d := d + 3) (by decide) (Nat.le_of_ble_eq_true rfl) ?_
  refine kx_st 0 (pc' := 0) (L' := [some (.ref 53), some (.int 20), some (.int x), some (.int (nI dp))]) (st' := []) (h' := kv_wd g w) rfl ?_
  refine kx_st 2 (pc' := 3) (L' := [some (.ref 53), some (.int 20), some (.int x), some (.int (nI dp))]) (st' := [.int 20, .int (nI dp)]) (h' := kv_wd g w) rfl ?_
  refine kx_bi (t := 8) rfl rfl (fun (h3 : nI dp ≤ 20) => ?_) (fun (h3 : ¬ (nI dp ≤ 20)) => ?_)
  · refine kx_st 2 (pc' := 10) (L' := [some (.ref 53), some (.int 20), some (.int x), some (.int (nI dp))]) (st' := [.int 20, .ref 53]) (h' := kv_wd g w) rfl ?_
    refine kx_call (z := 76) (as := [.ref 53, .int 20]) (rest := []) (v := none) (h1 := kv_wd (kx_nx g c [20]) w) rfl (ev_note (d := d + 2) c hs.1 (by omega) 20) ?_
    refine kx_st 0 (pc' := 13) (L' := [some (.ref 53), some (.int 20), some (.int x), some (.int (nI dp))]) (st' := []) (h' := kv_wd (kx_nx g c [20]) w) rfl ?_
    refine kx_st 7 (pc' := 157) (L' := [some (.ref 53), some (.int 20), some (.int x), some (.int (nI dp))]) (st' := [.int (nI dp), .int x, .int 0, .int 1, .ref 53]) (h' := kv_wd (kx_nx g c [20]) w) rfl ?_
    refine kx_call (z := 78) (as := [.ref 53, .int 1, .int 0, .int x, .int (nI dp)]) (rest := []) (v := some (.int (x + N))) (h1 := kv_wd (kx_nx g c [20, 10]) w) rfl (by rw [← show kx_nx (kx_nx g c [20]) (c + 1) [10] = kx_nx g c [20, 10] from kx_nx_app g c [20] [10]]; exact ev_abv_4_1_0 (d := d + 0) (g := kx_nx g c [20]) hE1 hE3 N M (c + 1) (kx_VS_nx [20] hs) (by omega) x dp (by omega)) ?_
    refine kx_st 0 (pc' := 160) (L' := [some (.ref 53), some (.int 20), some (.int x), some (.int (nI dp))]) (st' := [.int (x + N)]) (h' := kv_wd (kx_nx g c [20, 10]) w) rfl ?_
    refine kx_st 2 (pc' := 162) (L' := [some (.ref 53), some (.int 20), some (.int x), some (.int (nI dp))]) (st' := [.int ((x + N) * 3)]) (h' := kv_wd (kx_nx g c [20, 10]) w) rfl ?_
    refine kx_ret (v := some (.int ((x + N) * 3))) rfl ?_
    exact ⟨rfl, rfl⟩
  · exact absurd (nI_le (a := dp) (b := 20) (by omega) (by omega)) h3
set_option maxRecDepth 100000 in
theorem ev_own_4_0 {E : kv_V} {d : Nat} {g : kv_S} {w : kv_W} (hE1 : E 1001 = some (0, 7, kv_KA)) (hE3 : E 1003 = some (0, 28, kv_BO)) (N M : Int32) (c : Nat) (hs : kx_VS g c N M 4) (h40 : c + 2 ≤ 40) (x : Int32) (dp : Nat) (hd : dp + 2 ≤ 20) : kv_ev E (d + 5) 77 [.ref 53, .int 0, .int x, .int (nI dp)] (kv_wd g w) (some (.int ((x + N) * 3))) (kv_wd (kx_nx g c [20, 10]) w) := by
  refine kx_ev (d := d + 4) (by decide) (Nat.le_of_ble_eq_true rfl) ?_
  refine kx_st 0 (pc' := 0) (L' := [some (.ref 53), some (.int 0), some (.int x), some (.int (nI dp))]) (st' := []) (h' := kv_wd g w) rfl ?_
  refine kx_st 4 (pc' := 6) (L' := [some (.ref 53), some (.int 0), some (.int x), some (.int (nI dp))]) (st' := [.int 0, .int (g 53 4), .ref 53]) (h' := kv_wd g w) rfl ?_
  refine kx_call (z := 75) (as := [.int (g 53 4), .int 0]) (rest := [.ref 53]) (v := some (.int 20)) (h1 := kv_wd g w) rfl (by rw [show g 53 4 = 4 from hs.2.2.2]; exact ev_bodyOf_4_0 (d := d + 2) hE1 hE3) ?_
  refine kx_st 0 (pc' := 9) (L' := [some (.ref 53), some (.int 0), some (.int x), some (.int (nI dp))]) (st' := [.int 20, .ref 53]) (h' := kv_wd g w) rfl ?_
  refine kx_st 4 (pc' := 13) (L' := [some (.ref 53), some (.int 0), some (.int x), some (.int (nI dp))]) (st' := [.int ((nI dp) + 1), .int x, .int 20, .ref 53]) (h' := kv_wd g w) rfl ?_
  refine kx_call (z := 79) (as := [.ref 53, .int 20, .int x, .int ((nI dp) + 1)]) (rest := []) (v := some (.int ((x + N) * 3))) (h1 := kv_wd (kx_nx g c [20, 10]) w) rfl (by rw [← nI_succ]; exact ev_run_4_20 (d := d + 0) hE1 hE3 N M c hs h40 x (dp + 1) (by omega)) ?_
  refine kx_st 0 (pc' := 16) (L' := [some (.ref 53), some (.int 0), some (.int x), some (.int (nI dp))]) (st' := [.int ((x + N) * 3)]) (h' := kv_wd (kx_nx g c [20, 10]) w) rfl ?_
  refine kx_ret (v := some (.int ((x + N) * 3))) rfl ?_
  exact ⟨rfl, rfl⟩
set_option maxRecDepth 100000 in
theorem ev_run_4_11 {E : kv_V} {d : Nat} {g : kv_S} {w : kv_W} (hE1 : E 1001 = some (0, 7, kv_KA)) (hE3 : E 1003 = some (0, 28, kv_BO)) (N M : Int32) (c : Nat) (hs : kx_VS g c N M 4) (h40 : c + 3 ≤ 40) (x : Int32) (dp : Nat) (hd : dp + 2 ≤ 20) : kv_ev E (d + 6) 79 [.ref 53, .int 11, .int x, .int (nI dp)] (kv_wd g w) (some (.int (((x + N) * 3) * 2))) (kv_wd (kx_nx g c [11, 20, 10]) w) := by
  refine kx_ev (d := d + 5) (by decide) (Nat.le_of_ble_eq_true rfl) ?_
  refine kx_st 0 (pc' := 0) (L' := [some (.ref 53), some (.int 11), some (.int x), some (.int (nI dp))]) (st' := []) (h' := kv_wd g w) rfl ?_
  refine kx_st 2 (pc' := 3) (L' := [some (.ref 53), some (.int 11), some (.int x), some (.int (nI dp))]) (st' := [.int 20, .int (nI dp)]) (h' := kv_wd g w) rfl ?_
  refine kx_bi (t := 8) rfl rfl (fun (h3 : nI dp ≤ 20) => ?_) (fun (h3 : ¬ (nI dp ≤ 20)) => ?_)
  · refine kx_st 2 (pc' := 10) (L' := [some (.ref 53), some (.int 11), some (.int x), some (.int (nI dp))]) (st' := [.int 11, .ref 53]) (h' := kv_wd g w) rfl ?_
    refine kx_call (z := 76) (as := [.ref 53, .int 11]) (rest := []) (v := none) (h1 := kv_wd (kx_nx g c [11]) w) rfl (ev_note (d := d + 4) c hs.1 (by omega) 11) ?_
    refine kx_st 0 (pc' := 13) (L' := [some (.ref 53), some (.int 11), some (.int x), some (.int (nI dp))]) (st' := []) (h' := kv_wd (kx_nx g c [11]) w) rfl ?_
    refine kx_st 6 (pc' := 123) (L' := [some (.ref 53), some (.int 11), some (.int x), some (.int (nI dp))]) (st' := [.int (nI dp), .int x, .int 0, .ref 53]) (h' := kv_wd (kx_nx g c [11]) w) rfl ?_
    refine kx_call (z := 77) (as := [.ref 53, .int 0, .int x, .int (nI dp)]) (rest := []) (v := some (.int ((x + N) * 3))) (h1 := kv_wd (kx_nx g c [11, 20, 10]) w) rfl (by rw [← show kx_nx (kx_nx g c [11]) (c + 1) [20, 10] = kx_nx g c [11, 20, 10] from kx_nx_app g c [11] [20, 10]]; exact ev_own_4_0 (d := d + 0) (g := kx_nx g c [11]) hE1 hE3 N M (c + 1) (kx_VS_nx [11] hs) (by omega) x dp (by omega)) ?_
    refine kx_st 0 (pc' := 126) (L' := [some (.ref 53), some (.int 11), some (.int x), some (.int (nI dp))]) (st' := [.int ((x + N) * 3)]) (h' := kv_wd (kx_nx g c [11, 20, 10]) w) rfl ?_
    refine kx_st 2 (pc' := 128) (L' := [some (.ref 53), some (.int 11), some (.int x), some (.int (nI dp))]) (st' := [.int (((x + N) * 3) * 2)]) (h' := kv_wd (kx_nx g c [11, 20, 10]) w) rfl ?_
    refine kx_ret (v := some (.int (((x + N) * 3) * 2))) rfl ?_
    exact ⟨rfl, rfl⟩
  · exact absurd (nI_le (a := dp) (b := 20) (by omega) (by omega)) h3
set_option maxRecDepth 100000 in
theorem ev_own_4_1 {E : kv_V} {d : Nat} {g : kv_S} {w : kv_W} (hE1 : E 1001 = some (0, 7, kv_KA)) (hE3 : E 1003 = some (0, 28, kv_BO)) (N M : Int32) (c : Nat) (hs : kx_VS g c N M 4) (h40 : c + 3 ≤ 40) (x : Int32) (dp : Nat) (hd : dp + 3 ≤ 20) : kv_ev E (d + 7) 77 [.ref 53, .int 1, .int x, .int (nI dp)] (kv_wd g w) (some (.int (((x + N) * 3) * 2))) (kv_wd (kx_nx g c [11, 20, 10]) w) := by
  refine kx_ev (d := d + 6) (by decide) (Nat.le_of_ble_eq_true rfl) ?_
  refine kx_st 0 (pc' := 0) (L' := [some (.ref 53), some (.int 1), some (.int x), some (.int (nI dp))]) (st' := []) (h' := kv_wd g w) rfl ?_
  refine kx_st 4 (pc' := 6) (L' := [some (.ref 53), some (.int 1), some (.int x), some (.int (nI dp))]) (st' := [.int 1, .int (g 53 4), .ref 53]) (h' := kv_wd g w) rfl ?_
  refine kx_call (z := 75) (as := [.int (g 53 4), .int 1]) (rest := [.ref 53]) (v := some (.int 11)) (h1 := kv_wd g w) rfl (by rw [show g 53 4 = 4 from hs.2.2.2]; exact ev_bodyOf_4_1 (d := d + 4) hE1 hE3) ?_
  refine kx_st 0 (pc' := 9) (L' := [some (.ref 53), some (.int 1), some (.int x), some (.int (nI dp))]) (st' := [.int 11, .ref 53]) (h' := kv_wd g w) rfl ?_
  refine kx_st 4 (pc' := 13) (L' := [some (.ref 53), some (.int 1), some (.int x), some (.int (nI dp))]) (st' := [.int ((nI dp) + 1), .int x, .int 11, .ref 53]) (h' := kv_wd g w) rfl ?_
  refine kx_call (z := 79) (as := [.ref 53, .int 11, .int x, .int ((nI dp) + 1)]) (rest := []) (v := some (.int (((x + N) * 3) * 2))) (h1 := kv_wd (kx_nx g c [11, 20, 10]) w) rfl (by rw [← nI_succ]; exact ev_run_4_11 (d := d + 0) hE1 hE3 N M c hs h40 x (dp + 1) (by omega)) ?_
  refine kx_st 0 (pc' := 16) (L' := [some (.ref 53), some (.int 1), some (.int x), some (.int (nI dp))]) (st' := [.int (((x + N) * 3) * 2)]) (h' := kv_wd (kx_nx g c [11, 20, 10]) w) rfl ?_
  refine kx_ret (v := some (.int (((x + N) * 3) * 2))) rfl ?_
  exact ⟨rfl, rfl⟩
set_option maxRecDepth 100000 in
theorem ev_run_4_12 {E : kv_V} {d : Nat} {g : kv_S} {w : kv_W} (hE1 : E 1001 = some (0, 7, kv_KA)) (hE3 : E 1003 = some (0, 28, kv_BO)) (N M : Int32) (c : Nat) (hs : kx_VS g c N M 4) (h40 : c + 1 ≤ 40) (x : Int32) (dp : Nat) (hd : dp + 0 ≤ 20) : kv_ev E (d + 2) 79 [.ref 53, .int 12, .int x, .int (nI dp)] (kv_wd g w) (some (.int (x - M))) (kv_wd (kx_nx g c [12]) w) := by
  refine kx_ev (d := d + 1) (by decide) (Nat.le_of_ble_eq_true rfl) ?_
  refine kx_st 0 (pc' := 0) (L' := [some (.ref 53), some (.int 12), some (.int x), some (.int (nI dp))]) (st' := []) (h' := kv_wd g w) rfl ?_
  refine kx_st 2 (pc' := 3) (L' := [some (.ref 53), some (.int 12), some (.int x), some (.int (nI dp))]) (st' := [.int 20, .int (nI dp)]) (h' := kv_wd g w) rfl ?_
  refine kx_bi (t := 8) rfl rfl (fun (h3 : nI dp ≤ 20) => ?_) (fun (h3 : ¬ (nI dp ≤ 20)) => ?_)
  · refine kx_st 2 (pc' := 10) (L' := [some (.ref 53), some (.int 12), some (.int x), some (.int (nI dp))]) (st' := [.int 12, .ref 53]) (h' := kv_wd g w) rfl ?_
    refine kx_call (z := 76) (as := [.ref 53, .int 12]) (rest := []) (v := none) (h1 := kv_wd (kx_nx g c [12]) w) rfl (ev_note (d := d + 0) c hs.1 (by omega) 12) ?_
    refine kx_st 0 (pc' := 13) (L' := [some (.ref 53), some (.int 12), some (.int x), some (.int (nI dp))]) (st' := []) (h' := kv_wd (kx_nx g c [12]) w) rfl ?_
    refine kx_st 6 (pc' := 135) (L' := [some (.ref 53), some (.int 12), some (.int x), some (.int (nI dp))]) (st' := [.int (x - ((kx_nx g c [12]) 53 3))]) (h' := kv_wd (kx_nx g c [12]) w) rfl ?_
    refine kx_ret (v := some (.int (x - ((kx_nx g c [12]) 53 3)))) rfl ?_
    exact ⟨by rw [show (kx_nx g c [12]) 53 3 = M from (kx_VS_nx [12] hs).2.2.1], rfl⟩
  · exact absurd (nI_le (a := dp) (b := 20) (by omega) (by omega)) h3
set_option maxRecDepth 100000 in
theorem ev_own_4_2 {E : kv_V} {d : Nat} {g : kv_S} {w : kv_W} (hE1 : E 1001 = some (0, 7, kv_KA)) (hE3 : E 1003 = some (0, 28, kv_BO)) (N M : Int32) (c : Nat) (hs : kx_VS g c N M 4) (h40 : c + 1 ≤ 40) (x : Int32) (dp : Nat) (hd : dp + 1 ≤ 20) : kv_ev E (d + 3) 77 [.ref 53, .int 2, .int x, .int (nI dp)] (kv_wd g w) (some (.int (x - M))) (kv_wd (kx_nx g c [12]) w) := by
  refine kx_ev (d := d + 2) (by decide) (Nat.le_of_ble_eq_true rfl) ?_
  refine kx_st 0 (pc' := 0) (L' := [some (.ref 53), some (.int 2), some (.int x), some (.int (nI dp))]) (st' := []) (h' := kv_wd g w) rfl ?_
  refine kx_st 4 (pc' := 6) (L' := [some (.ref 53), some (.int 2), some (.int x), some (.int (nI dp))]) (st' := [.int 2, .int (g 53 4), .ref 53]) (h' := kv_wd g w) rfl ?_
  refine kx_call (z := 75) (as := [.int (g 53 4), .int 2]) (rest := [.ref 53]) (v := some (.int 12)) (h1 := kv_wd g w) rfl (by rw [show g 53 4 = 4 from hs.2.2.2]; exact ev_bodyOf_4_2 (d := d + 0) hE1 hE3) ?_
  refine kx_st 0 (pc' := 9) (L' := [some (.ref 53), some (.int 2), some (.int x), some (.int (nI dp))]) (st' := [.int 12, .ref 53]) (h' := kv_wd g w) rfl ?_
  refine kx_st 4 (pc' := 13) (L' := [some (.ref 53), some (.int 2), some (.int x), some (.int (nI dp))]) (st' := [.int ((nI dp) + 1), .int x, .int 12, .ref 53]) (h' := kv_wd g w) rfl ?_
  refine kx_call (z := 79) (as := [.ref 53, .int 12, .int x, .int ((nI dp) + 1)]) (rest := []) (v := some (.int (x - M))) (h1 := kv_wd (kx_nx g c [12]) w) rfl (by rw [← nI_succ]; exact ev_run_4_12 (d := d + 0) hE1 hE3 N M c hs h40 x (dp + 1) (by omega)) ?_
  refine kx_st 0 (pc' := 16) (L' := [some (.ref 53), some (.int 2), some (.int x), some (.int (nI dp))]) (st' := [.int (x - M)]) (h' := kv_wd (kx_nx g c [12]) w) rfl ?_
  refine kx_ret (v := some (.int (x - M))) rfl ?_
  exact ⟨rfl, rfl⟩
set_option maxRecDepth 100000 in
theorem ev_run_4_13 {E : kv_V} {d : Nat} {g : kv_S} {w : kv_W} (hE1 : E 1001 = some (0, 7, kv_KA)) (hE3 : E 1003 = some (0, 28, kv_BO)) (N M : Int32) (c : Nat) (hs : kx_VS g c N M 4) (h40 : c + 5 ≤ 40) (x : Int32) (dp : Nat) (hd : dp + 3 ≤ 20) : kv_ev E (d + 8) 79 [.ref 53, .int 13, .int x, .int (nI dp)] (kv_wd g w) (some (.int ((((x + N) * 3) * 2) ^^^ (x - M)))) (kv_wd (kx_nx g c [13, 11, 20, 10, 12]) w) := by
  refine kx_ev (d := d + 7) (by decide) (Nat.le_of_ble_eq_true rfl) ?_
  refine kx_st 0 (pc' := 0) (L' := [some (.ref 53), some (.int 13), some (.int x), some (.int (nI dp))]) (st' := []) (h' := kv_wd g w) rfl ?_
  refine kx_st 2 (pc' := 3) (L' := [some (.ref 53), some (.int 13), some (.int x), some (.int (nI dp))]) (st' := [.int 20, .int (nI dp)]) (h' := kv_wd g w) rfl ?_
  refine kx_bi (t := 8) rfl rfl (fun (h3 : nI dp ≤ 20) => ?_) (fun (h3 : ¬ (nI dp ≤ 20)) => ?_)
  · refine kx_st 2 (pc' := 10) (L' := [some (.ref 53), some (.int 13), some (.int x), some (.int (nI dp))]) (st' := [.int 13, .ref 53]) (h' := kv_wd g w) rfl ?_
    refine kx_call (z := 76) (as := [.ref 53, .int 13]) (rest := []) (v := none) (h1 := kv_wd (kx_nx g c [13]) w) rfl (ev_note (d := d + 6) c hs.1 (by omega) 13) ?_
    refine kx_st 0 (pc' := 13) (L' := [some (.ref 53), some (.int 13), some (.int x), some (.int (nI dp))]) (st' := []) (h' := kv_wd (kx_nx g c [13]) w) rfl ?_
    refine kx_st 6 (pc' := 140) (L' := [some (.ref 53), some (.int 13), some (.int x), some (.int (nI dp))]) (st' := [.int (nI dp), .int x, .int 1, .ref 53]) (h' := kv_wd (kx_nx g c [13]) w) rfl ?_
    refine kx_call (z := 77) (as := [.ref 53, .int 1, .int x, .int (nI dp)]) (rest := []) (v := some (.int (((x + N) * 3) * 2))) (h1 := kv_wd (kx_nx g c [13, 11, 20, 10]) w) rfl (by rw [← show kx_nx (kx_nx g c [13]) (c + 1) [11, 20, 10] = kx_nx g c [13, 11, 20, 10] from kx_nx_app g c [13] [11, 20, 10]]; exact ev_own_4_1 (d := d + 0) (g := kx_nx g c [13]) hE1 hE3 N M (c + 1) (kx_VS_nx [13] hs) (by omega) x dp (by omega)) ?_
    refine kx_st 0 (pc' := 143) (L' := [some (.ref 53), some (.int 13), some (.int x), some (.int (nI dp))]) (st' := [.int (((x + N) * 3) * 2)]) (h' := kv_wd (kx_nx g c [13, 11, 20, 10]) w) rfl ?_
    refine kx_st 4 (pc' := 147) (L' := [some (.ref 53), some (.int 13), some (.int x), some (.int (nI dp))]) (st' := [.int (nI dp), .int x, .int 2, .ref 53, .int (((x + N) * 3) * 2)]) (h' := kv_wd (kx_nx g c [13, 11, 20, 10]) w) rfl ?_
    refine kx_call (z := 77) (as := [.ref 53, .int 2, .int x, .int (nI dp)]) (rest := [.int (((x + N) * 3) * 2)]) (v := some (.int (x - M))) (h1 := kv_wd (kx_nx g c [13, 11, 20, 10, 12]) w) rfl (by rw [← show kx_nx (kx_nx g c [13, 11, 20, 10]) (c + 4) [12] = kx_nx g c [13, 11, 20, 10, 12] from kx_nx_app g c [13, 11, 20, 10] [12]]; exact ev_own_4_2 (d := d + 4) (g := kx_nx g c [13, 11, 20, 10]) hE1 hE3 N M (c + 4) (kx_VS_nx [13, 11, 20, 10] hs) (by omega) x dp (by omega)) ?_
    refine kx_st 0 (pc' := 150) (L' := [some (.ref 53), some (.int 13), some (.int x), some (.int (nI dp))]) (st' := [.int (x - M), .int (((x + N) * 3) * 2)]) (h' := kv_wd (kx_nx g c [13, 11, 20, 10, 12]) w) rfl ?_
    refine kx_st 1 (pc' := 151) (L' := [some (.ref 53), some (.int 13), some (.int x), some (.int (nI dp))]) (st' := [.int ((((x + N) * 3) * 2) ^^^ (x - M))]) (h' := kv_wd (kx_nx g c [13, 11, 20, 10, 12]) w) rfl ?_
    refine kx_ret (v := some (.int ((((x + N) * 3) * 2) ^^^ (x - M)))) rfl ?_
    exact ⟨rfl, rfl⟩
  · exact absurd (nI_le (a := dp) (b := 20) (by omega) (by omega)) h3
set_option maxRecDepth 100000 in
theorem ev_abv_4_4_3 {E : kv_V} {d : Nat} {g : kv_S} {w : kv_W} (hE1 : E 1001 = some (0, 7, kv_KA)) (hE3 : E 1003 = some (0, 28, kv_BO)) (N M : Int32) (c : Nat) (hs : kx_VS g c N M 4) (h40 : c + 5 ≤ 40) (x : Int32) (dp : Nat) (hd : dp + 4 ≤ 20) : kv_ev E (d + 9) 78 [.ref 53, .int 4, .int 3, .int x, .int (nI dp)] (kv_wd g w) (some (.int ((((x + N) * 3) * 2) ^^^ (x - M)))) (kv_wd (kx_nx g c [13, 11, 20, 10, 12]) w) := by
  refine kx_ev (d := d + 8) (by decide) (Nat.le_of_ble_eq_true rfl) ?_
  refine kx_st 0 (pc' := 0) (L' := [some (.ref 53), some (.int 4), some (.int 3), some (.int x), some (.int (nI dp))]) (st' := []) (h' := kv_wd g w) rfl ?_
  refine kx_st 2 (pc' := 2) (L' := [some (.ref 53), some (.int 4), some (.int 3), some (.int x), some (.int (nI dp))]) (st' := [.int 4, .ref 53]) (h' := kv_wd g w) rfl ?_
  refine kx_call (z := 28) (as := [.int 4]) (rest := [.ref 53]) (v := some (.int 1)) (h1 := kv_wd g w) rfl (ev_above_4 (d := d + 7) hE1) ?_
  refine kx_st 0 (pc' := 5) (L' := [some (.ref 53), some (.int 4), some (.int 3), some (.int x), some (.int (nI dp))]) (st' := [.int 1, .ref 53]) (h' := kv_wd g w) rfl ?_
  refine kx_st 1 (pc' := 6) (L' := [some (.ref 53), some (.int 4), some (.int 3), some (.int x), some (.int (nI dp))]) (st' := [.int 3, .int 1, .ref 53]) (h' := kv_wd g w) rfl ?_
  refine kx_call (z := 75) (as := [.int 1, .int 3]) (rest := [.ref 53]) (v := some (.int 13)) (h1 := kv_wd g w) rfl (ev_bodyOf_1_3 (d := d + 6) hE1 hE3) ?_
  refine kx_st 0 (pc' := 9) (L' := [some (.ref 53), some (.int 4), some (.int 3), some (.int x), some (.int (nI dp))]) (st' := [.int 13, .ref 53]) (h' := kv_wd g w) rfl ?_
  refine kx_st 4 (pc' := 14) (L' := [some (.ref 53), some (.int 4), some (.int 3), some (.int x), some (.int (nI dp))]) (st' := [.int ((nI dp) + 1), .int x, .int 13, .ref 53]) (h' := kv_wd g w) rfl ?_
  refine kx_call (z := 79) (as := [.ref 53, .int 13, .int x, .int ((nI dp) + 1)]) (rest := []) (v := some (.int ((((x + N) * 3) * 2) ^^^ (x - M)))) (h1 := kv_wd (kx_nx g c [13, 11, 20, 10, 12]) w) rfl (by rw [← nI_succ]; exact ev_run_4_13 (d := d + 0) hE1 hE3 N M c hs h40 x (dp + 1) (by omega)) ?_
  refine kx_st 0 (pc' := 17) (L' := [some (.ref 53), some (.int 4), some (.int 3), some (.int x), some (.int (nI dp))]) (st' := [.int ((((x + N) * 3) * 2) ^^^ (x - M))]) (h' := kv_wd (kx_nx g c [13, 11, 20, 10, 12]) w) rfl ?_
  refine kx_ret (v := some (.int ((((x + N) * 3) * 2) ^^^ (x - M)))) rfl ?_
  exact ⟨rfl, rfl⟩
set_option maxRecDepth 100000 in
theorem ev_run_4_50 {E : kv_V} {d : Nat} {g : kv_S} {w : kv_W} (hE1 : E 1001 = some (0, 7, kv_KA)) (hE3 : E 1003 = some (0, 28, kv_BO)) (N M : Int32) (c : Nat) (hs : kx_VS g c N M 4) (h40 : c + 8 ≤ 40) (x : Int32) (dp : Nat) (hd : dp + 4 ≤ 20) : kv_ev E (d + 10) 79 [.ref 53, .int 50, .int x, .int (nI dp)] (kv_wd g w) (some (.int (((((x + N) * 3) * 2) ^^^ (x - M)) - ((2 + N) * 3)))) (kv_wd (kx_nx g c [50, 13, 11, 20, 10, 12, 20, 10]) w) := by
  refine kx_ev (d := d + 9) (by decide) (Nat.le_of_ble_eq_true rfl) ?_
  refine kx_st 0 (pc' := 0) (L' := [some (.ref 53), some (.int 50), some (.int x), some (.int (nI dp))]) (st' := []) (h' := kv_wd g w) rfl ?_
  refine kx_st 2 (pc' := 3) (L' := [some (.ref 53), some (.int 50), some (.int x), some (.int (nI dp))]) (st' := [.int 20, .int (nI dp)]) (h' := kv_wd g w) rfl ?_
  refine kx_bi (t := 8) rfl rfl (fun (h3 : nI dp ≤ 20) => ?_) (fun (h3 : ¬ (nI dp ≤ 20)) => ?_)
  · refine kx_st 2 (pc' := 10) (L' := [some (.ref 53), some (.int 50), some (.int x), some (.int (nI dp))]) (st' := [.int 50, .ref 53]) (h' := kv_wd g w) rfl ?_
    refine kx_call (z := 76) (as := [.ref 53, .int 50]) (rest := []) (v := none) (h1 := kv_wd (kx_nx g c [50]) w) rfl (ev_note (d := d + 8) c hs.1 (by omega) 50) ?_
    refine kx_st 0 (pc' := 13) (L' := [some (.ref 53), some (.int 50), some (.int x), some (.int (nI dp))]) (st' := []) (h' := kv_wd (kx_nx g c [50]) w) rfl ?_
    refine kx_st 7 (pc' := 195) (L' := [some (.ref 53), some (.int 50), some (.int x), some (.int (nI dp))]) (st' := [.int (nI dp), .int x, .int 3, .int 4, .ref 53]) (h' := kv_wd (kx_nx g c [50]) w) rfl ?_
    refine kx_call (z := 78) (as := [.ref 53, .int 4, .int 3, .int x, .int (nI dp)]) (rest := []) (v := some (.int ((((x + N) * 3) * 2) ^^^ (x - M)))) (h1 := kv_wd (kx_nx g c [50, 13, 11, 20, 10, 12]) w) rfl (by rw [← show kx_nx (kx_nx g c [50]) (c + 1) [13, 11, 20, 10, 12] = kx_nx g c [50, 13, 11, 20, 10, 12] from kx_nx_app g c [50] [13, 11, 20, 10, 12]]; exact ev_abv_4_4_3 (d := d + 0) (g := kx_nx g c [50]) hE1 hE3 N M (c + 1) (kx_VS_nx [50] hs) (by omega) x dp (by omega)) ?_
    refine kx_st 0 (pc' := 198) (L' := [some (.ref 53), some (.int 50), some (.int x), some (.int (nI dp))]) (st' := [.int ((((x + N) * 3) * 2) ^^^ (x - M))]) (h' := kv_wd (kx_nx g c [50, 13, 11, 20, 10, 12]) w) rfl ?_
    refine kx_st 4 (pc' := 202) (L' := [some (.ref 53), some (.int 50), some (.int x), some (.int (nI dp))]) (st' := [.int (nI dp), .int 2, .int 0, .ref 53, .int ((((x + N) * 3) * 2) ^^^ (x - M))]) (h' := kv_wd (kx_nx g c [50, 13, 11, 20, 10, 12]) w) rfl ?_
    refine kx_call (z := 77) (as := [.ref 53, .int 0, .int 2, .int (nI dp)]) (rest := [.int ((((x + N) * 3) * 2) ^^^ (x - M))]) (v := some (.int ((2 + N) * 3))) (h1 := kv_wd (kx_nx g c [50, 13, 11, 20, 10, 12, 20, 10]) w) rfl (by rw [← show kx_nx (kx_nx g c [50, 13, 11, 20, 10, 12]) (c + 6) [20, 10] = kx_nx g c [50, 13, 11, 20, 10, 12, 20, 10] from kx_nx_app g c [50, 13, 11, 20, 10, 12] [20, 10]]; exact ev_own_4_0 (d := d + 4) (g := kx_nx g c [50, 13, 11, 20, 10, 12]) hE1 hE3 N M (c + 6) (kx_VS_nx [50, 13, 11, 20, 10, 12] hs) (by omega) 2 dp (by omega)) ?_
    refine kx_st 0 (pc' := 205) (L' := [some (.ref 53), some (.int 50), some (.int x), some (.int (nI dp))]) (st' := [.int ((2 + N) * 3), .int ((((x + N) * 3) * 2) ^^^ (x - M))]) (h' := kv_wd (kx_nx g c [50, 13, 11, 20, 10, 12, 20, 10]) w) rfl ?_
    refine kx_st 1 (pc' := 206) (L' := [some (.ref 53), some (.int 50), some (.int x), some (.int (nI dp))]) (st' := [.int (((((x + N) * 3) * 2) ^^^ (x - M)) - ((2 + N) * 3))]) (h' := kv_wd (kx_nx g c [50, 13, 11, 20, 10, 12, 20, 10]) w) rfl ?_
    refine kx_ret (v := some (.int (((((x + N) * 3) * 2) ^^^ (x - M)) - ((2 + N) * 3)))) rfl ?_
    exact ⟨rfl, rfl⟩
  · exact absurd (nI_le (a := dp) (b := 20) (by omega) (by omega)) h3
set_option maxRecDepth 100000 in
theorem ev_own_4_3 {E : kv_V} {d : Nat} {g : kv_S} {w : kv_W} (hE1 : E 1001 = some (0, 7, kv_KA)) (hE3 : E 1003 = some (0, 28, kv_BO)) (N M : Int32) (c : Nat) (hs : kx_VS g c N M 4) (h40 : c + 8 ≤ 40) (x : Int32) (dp : Nat) (hd : dp + 5 ≤ 20) : kv_ev E (d + 11) 77 [.ref 53, .int 3, .int x, .int (nI dp)] (kv_wd g w) (some (.int (((((x + N) * 3) * 2) ^^^ (x - M)) - ((2 + N) * 3)))) (kv_wd (kx_nx g c [50, 13, 11, 20, 10, 12, 20, 10]) w) := by
  refine kx_ev (d := d + 10) (by decide) (Nat.le_of_ble_eq_true rfl) ?_
  refine kx_st 0 (pc' := 0) (L' := [some (.ref 53), some (.int 3), some (.int x), some (.int (nI dp))]) (st' := []) (h' := kv_wd g w) rfl ?_
  refine kx_st 4 (pc' := 6) (L' := [some (.ref 53), some (.int 3), some (.int x), some (.int (nI dp))]) (st' := [.int 3, .int (g 53 4), .ref 53]) (h' := kv_wd g w) rfl ?_
  refine kx_call (z := 75) (as := [.int (g 53 4), .int 3]) (rest := [.ref 53]) (v := some (.int 50)) (h1 := kv_wd g w) rfl (by rw [show g 53 4 = 4 from hs.2.2.2]; exact ev_bodyOf_4_3 (d := d + 8) hE1 hE3) ?_
  refine kx_st 0 (pc' := 9) (L' := [some (.ref 53), some (.int 3), some (.int x), some (.int (nI dp))]) (st' := [.int 50, .ref 53]) (h' := kv_wd g w) rfl ?_
  refine kx_st 4 (pc' := 13) (L' := [some (.ref 53), some (.int 3), some (.int x), some (.int (nI dp))]) (st' := [.int ((nI dp) + 1), .int x, .int 50, .ref 53]) (h' := kv_wd g w) rfl ?_
  refine kx_call (z := 79) (as := [.ref 53, .int 50, .int x, .int ((nI dp) + 1)]) (rest := []) (v := some (.int (((((x + N) * 3) * 2) ^^^ (x - M)) - ((2 + N) * 3)))) (h1 := kv_wd (kx_nx g c [50, 13, 11, 20, 10, 12, 20, 10]) w) rfl (by rw [← nI_succ]; exact ev_run_4_50 (d := d + 0) hE1 hE3 N M c hs h40 x (dp + 1) (by omega)) ?_
  refine kx_st 0 (pc' := 16) (L' := [some (.ref 53), some (.int 3), some (.int x), some (.int (nI dp))]) (st' := [.int (((((x + N) * 3) * 2) ^^^ (x - M)) - ((2 + N) * 3))]) (h' := kv_wd (kx_nx g c [50, 13, 11, 20, 10, 12, 20, 10]) w) rfl ?_
  refine kx_ret (v := some (.int (((((x + N) * 3) * 2) ^^^ (x - M)) - ((2 + N) * 3)))) rfl ?_
  exact ⟨rfl, rfl⟩
set_option maxRecDepth 100000 in
theorem ev_run_5_10 {E : kv_V} {d : Nat} {g : kv_S} {w : kv_W} (hE1 : E 1001 = some (0, 7, kv_KA)) (hE3 : E 1003 = some (0, 28, kv_BO)) (N M : Int32) (c : Nat) (hs : kx_VS g c N M 5) (h40 : c + 1 ≤ 40) (x : Int32) (dp : Nat) (hd : dp + 0 ≤ 20) : kv_ev E (d + 2) 79 [.ref 53, .int 10, .int x, .int (nI dp)] (kv_wd g w) (some (.int (x + N))) (kv_wd (kx_nx g c [10]) w) := by
  refine kx_ev (d := d + 1) (by decide) (Nat.le_of_ble_eq_true rfl) ?_
  refine kx_st 0 (pc' := 0) (L' := [some (.ref 53), some (.int 10), some (.int x), some (.int (nI dp))]) (st' := []) (h' := kv_wd g w) rfl ?_
  refine kx_st 2 (pc' := 3) (L' := [some (.ref 53), some (.int 10), some (.int x), some (.int (nI dp))]) (st' := [.int 20, .int (nI dp)]) (h' := kv_wd g w) rfl ?_
  refine kx_bi (t := 8) rfl rfl (fun (h3 : nI dp ≤ 20) => ?_) (fun (h3 : ¬ (nI dp ≤ 20)) => ?_)
  · refine kx_st 2 (pc' := 10) (L' := [some (.ref 53), some (.int 10), some (.int x), some (.int (nI dp))]) (st' := [.int 10, .ref 53]) (h' := kv_wd g w) rfl ?_
    refine kx_call (z := 76) (as := [.ref 53, .int 10]) (rest := []) (v := none) (h1 := kv_wd (kx_nx g c [10]) w) rfl (ev_note (d := d + 0) c hs.1 (by omega) 10) ?_
    refine kx_st 0 (pc' := 13) (L' := [some (.ref 53), some (.int 10), some (.int x), some (.int (nI dp))]) (st' := []) (h' := kv_wd (kx_nx g c [10]) w) rfl ?_
    refine kx_st 6 (pc' := 118) (L' := [some (.ref 53), some (.int 10), some (.int x), some (.int (nI dp))]) (st' := [.int (x + ((kx_nx g c [10]) 53 2))]) (h' := kv_wd (kx_nx g c [10]) w) rfl ?_
    refine kx_ret (v := some (.int (x + ((kx_nx g c [10]) 53 2)))) rfl ?_
    exact ⟨by rw [show (kx_nx g c [10]) 53 2 = N from (kx_VS_nx [10] hs).2.1], rfl⟩
  · exact absurd (nI_le (a := dp) (b := 20) (by omega) (by omega)) h3
set_option maxRecDepth 100000 in
theorem ev_own_5_0 {E : kv_V} {d : Nat} {g : kv_S} {w : kv_W} (hE1 : E 1001 = some (0, 7, kv_KA)) (hE3 : E 1003 = some (0, 28, kv_BO)) (N M : Int32) (c : Nat) (hs : kx_VS g c N M 5) (h40 : c + 1 ≤ 40) (x : Int32) (dp : Nat) (hd : dp + 1 ≤ 20) : kv_ev E (d + 3) 77 [.ref 53, .int 0, .int x, .int (nI dp)] (kv_wd g w) (some (.int (x + N))) (kv_wd (kx_nx g c [10]) w) := by
  refine kx_ev (d := d + 2) (by decide) (Nat.le_of_ble_eq_true rfl) ?_
  refine kx_st 0 (pc' := 0) (L' := [some (.ref 53), some (.int 0), some (.int x), some (.int (nI dp))]) (st' := []) (h' := kv_wd g w) rfl ?_
  refine kx_st 4 (pc' := 6) (L' := [some (.ref 53), some (.int 0), some (.int x), some (.int (nI dp))]) (st' := [.int 0, .int (g 53 4), .ref 53]) (h' := kv_wd g w) rfl ?_
  refine kx_call (z := 75) (as := [.int (g 53 4), .int 0]) (rest := [.ref 53]) (v := some (.int 10)) (h1 := kv_wd g w) rfl (by rw [show g 53 4 = 5 from hs.2.2.2]; exact ev_bodyOf_5_0 (d := d + 0) hE1 hE3) ?_
  refine kx_st 0 (pc' := 9) (L' := [some (.ref 53), some (.int 0), some (.int x), some (.int (nI dp))]) (st' := [.int 10, .ref 53]) (h' := kv_wd g w) rfl ?_
  refine kx_st 4 (pc' := 13) (L' := [some (.ref 53), some (.int 0), some (.int x), some (.int (nI dp))]) (st' := [.int ((nI dp) + 1), .int x, .int 10, .ref 53]) (h' := kv_wd g w) rfl ?_
  refine kx_call (z := 79) (as := [.ref 53, .int 10, .int x, .int ((nI dp) + 1)]) (rest := []) (v := some (.int (x + N))) (h1 := kv_wd (kx_nx g c [10]) w) rfl (by rw [← nI_succ]; exact ev_run_5_10 (d := d + 0) hE1 hE3 N M c hs h40 x (dp + 1) (by omega)) ?_
  refine kx_st 0 (pc' := 16) (L' := [some (.ref 53), some (.int 0), some (.int x), some (.int (nI dp))]) (st' := [.int (x + N)]) (h' := kv_wd (kx_nx g c [10]) w) rfl ?_
  refine kx_ret (v := some (.int (x + N))) rfl ?_
  exact ⟨rfl, rfl⟩
set_option maxRecDepth 100000 in
theorem ev_run_5_11 {E : kv_V} {d : Nat} {g : kv_S} {w : kv_W} (hE1 : E 1001 = some (0, 7, kv_KA)) (hE3 : E 1003 = some (0, 28, kv_BO)) (N M : Int32) (c : Nat) (hs : kx_VS g c N M 5) (h40 : c + 2 ≤ 40) (x : Int32) (dp : Nat) (hd : dp + 1 ≤ 20) : kv_ev E (d + 4) 79 [.ref 53, .int 11, .int x, .int (nI dp)] (kv_wd g w) (some (.int ((x + N) * 2))) (kv_wd (kx_nx g c [11, 10]) w) := by
  refine kx_ev (d := d + 3) (by decide) (Nat.le_of_ble_eq_true rfl) ?_
  refine kx_st 0 (pc' := 0) (L' := [some (.ref 53), some (.int 11), some (.int x), some (.int (nI dp))]) (st' := []) (h' := kv_wd g w) rfl ?_
  refine kx_st 2 (pc' := 3) (L' := [some (.ref 53), some (.int 11), some (.int x), some (.int (nI dp))]) (st' := [.int 20, .int (nI dp)]) (h' := kv_wd g w) rfl ?_
  refine kx_bi (t := 8) rfl rfl (fun (h3 : nI dp ≤ 20) => ?_) (fun (h3 : ¬ (nI dp ≤ 20)) => ?_)
  · refine kx_st 2 (pc' := 10) (L' := [some (.ref 53), some (.int 11), some (.int x), some (.int (nI dp))]) (st' := [.int 11, .ref 53]) (h' := kv_wd g w) rfl ?_
    refine kx_call (z := 76) (as := [.ref 53, .int 11]) (rest := []) (v := none) (h1 := kv_wd (kx_nx g c [11]) w) rfl (ev_note (d := d + 2) c hs.1 (by omega) 11) ?_
    refine kx_st 0 (pc' := 13) (L' := [some (.ref 53), some (.int 11), some (.int x), some (.int (nI dp))]) (st' := []) (h' := kv_wd (kx_nx g c [11]) w) rfl ?_
    refine kx_st 6 (pc' := 123) (L' := [some (.ref 53), some (.int 11), some (.int x), some (.int (nI dp))]) (st' := [.int (nI dp), .int x, .int 0, .ref 53]) (h' := kv_wd (kx_nx g c [11]) w) rfl ?_
    refine kx_call (z := 77) (as := [.ref 53, .int 0, .int x, .int (nI dp)]) (rest := []) (v := some (.int (x + N))) (h1 := kv_wd (kx_nx g c [11, 10]) w) rfl (by rw [← show kx_nx (kx_nx g c [11]) (c + 1) [10] = kx_nx g c [11, 10] from kx_nx_app g c [11] [10]]; exact ev_own_5_0 (d := d + 0) (g := kx_nx g c [11]) hE1 hE3 N M (c + 1) (kx_VS_nx [11] hs) (by omega) x dp (by omega)) ?_
    refine kx_st 0 (pc' := 126) (L' := [some (.ref 53), some (.int 11), some (.int x), some (.int (nI dp))]) (st' := [.int (x + N)]) (h' := kv_wd (kx_nx g c [11, 10]) w) rfl ?_
    refine kx_st 2 (pc' := 128) (L' := [some (.ref 53), some (.int 11), some (.int x), some (.int (nI dp))]) (st' := [.int ((x + N) * 2)]) (h' := kv_wd (kx_nx g c [11, 10]) w) rfl ?_
    refine kx_ret (v := some (.int ((x + N) * 2))) rfl ?_
    exact ⟨rfl, rfl⟩
  · exact absurd (nI_le (a := dp) (b := 20) (by omega) (by omega)) h3
set_option maxRecDepth 100000 in
theorem ev_abv_5_2_1 {E : kv_V} {d : Nat} {g : kv_S} {w : kv_W} (hE1 : E 1001 = some (0, 7, kv_KA)) (hE3 : E 1003 = some (0, 28, kv_BO)) (N M : Int32) (c : Nat) (hs : kx_VS g c N M 5) (h40 : c + 2 ≤ 40) (x : Int32) (dp : Nat) (hd : dp + 2 ≤ 20) : kv_ev E (d + 5) 78 [.ref 53, .int 2, .int 1, .int x, .int (nI dp)] (kv_wd g w) (some (.int ((x + N) * 2))) (kv_wd (kx_nx g c [11, 10]) w) := by
  refine kx_ev (d := d + 4) (by decide) (Nat.le_of_ble_eq_true rfl) ?_
  refine kx_st 0 (pc' := 0) (L' := [some (.ref 53), some (.int 2), some (.int 1), some (.int x), some (.int (nI dp))]) (st' := []) (h' := kv_wd g w) rfl ?_
  refine kx_st 2 (pc' := 2) (L' := [some (.ref 53), some (.int 2), some (.int 1), some (.int x), some (.int (nI dp))]) (st' := [.int 2, .ref 53]) (h' := kv_wd g w) rfl ?_
  refine kx_call (z := 28) (as := [.int 2]) (rest := [.ref 53]) (v := some (.int 0)) (h1 := kv_wd g w) rfl (ev_above_2 (d := d + 3) hE1) ?_
  refine kx_st 0 (pc' := 5) (L' := [some (.ref 53), some (.int 2), some (.int 1), some (.int x), some (.int (nI dp))]) (st' := [.int 0, .ref 53]) (h' := kv_wd g w) rfl ?_
  refine kx_st 1 (pc' := 6) (L' := [some (.ref 53), some (.int 2), some (.int 1), some (.int x), some (.int (nI dp))]) (st' := [.int 1, .int 0, .ref 53]) (h' := kv_wd g w) rfl ?_
  refine kx_call (z := 75) (as := [.int 0, .int 1]) (rest := [.ref 53]) (v := some (.int 11)) (h1 := kv_wd g w) rfl (ev_bodyOf_0_1 (d := d + 2) hE1 hE3) ?_
  refine kx_st 0 (pc' := 9) (L' := [some (.ref 53), some (.int 2), some (.int 1), some (.int x), some (.int (nI dp))]) (st' := [.int 11, .ref 53]) (h' := kv_wd g w) rfl ?_
  refine kx_st 4 (pc' := 14) (L' := [some (.ref 53), some (.int 2), some (.int 1), some (.int x), some (.int (nI dp))]) (st' := [.int ((nI dp) + 1), .int x, .int 11, .ref 53]) (h' := kv_wd g w) rfl ?_
  refine kx_call (z := 79) (as := [.ref 53, .int 11, .int x, .int ((nI dp) + 1)]) (rest := []) (v := some (.int ((x + N) * 2))) (h1 := kv_wd (kx_nx g c [11, 10]) w) rfl (by rw [← nI_succ]; exact ev_run_5_11 (d := d + 0) hE1 hE3 N M c hs h40 x (dp + 1) (by omega)) ?_
  refine kx_st 0 (pc' := 17) (L' := [some (.ref 53), some (.int 2), some (.int 1), some (.int x), some (.int (nI dp))]) (st' := [.int ((x + N) * 2)]) (h' := kv_wd (kx_nx g c [11, 10]) w) rfl ?_
  refine kx_ret (v := some (.int ((x + N) * 2))) rfl ?_
  exact ⟨rfl, rfl⟩
set_option maxRecDepth 100000 in
theorem ev_run_5_12 {E : kv_V} {d : Nat} {g : kv_S} {w : kv_W} (hE1 : E 1001 = some (0, 7, kv_KA)) (hE3 : E 1003 = some (0, 28, kv_BO)) (N M : Int32) (c : Nat) (hs : kx_VS g c N M 5) (h40 : c + 1 ≤ 40) (x : Int32) (dp : Nat) (hd : dp + 0 ≤ 20) : kv_ev E (d + 2) 79 [.ref 53, .int 12, .int x, .int (nI dp)] (kv_wd g w) (some (.int (x - M))) (kv_wd (kx_nx g c [12]) w) := by
  refine kx_ev (d := d + 1) (by decide) (Nat.le_of_ble_eq_true rfl) ?_
  refine kx_st 0 (pc' := 0) (L' := [some (.ref 53), some (.int 12), some (.int x), some (.int (nI dp))]) (st' := []) (h' := kv_wd g w) rfl ?_
  refine kx_st 2 (pc' := 3) (L' := [some (.ref 53), some (.int 12), some (.int x), some (.int (nI dp))]) (st' := [.int 20, .int (nI dp)]) (h' := kv_wd g w) rfl ?_
  refine kx_bi (t := 8) rfl rfl (fun (h3 : nI dp ≤ 20) => ?_) (fun (h3 : ¬ (nI dp ≤ 20)) => ?_)
  · refine kx_st 2 (pc' := 10) (L' := [some (.ref 53), some (.int 12), some (.int x), some (.int (nI dp))]) (st' := [.int 12, .ref 53]) (h' := kv_wd g w) rfl ?_
    refine kx_call (z := 76) (as := [.ref 53, .int 12]) (rest := []) (v := none) (h1 := kv_wd (kx_nx g c [12]) w) rfl (ev_note (d := d + 0) c hs.1 (by omega) 12) ?_
    refine kx_st 0 (pc' := 13) (L' := [some (.ref 53), some (.int 12), some (.int x), some (.int (nI dp))]) (st' := []) (h' := kv_wd (kx_nx g c [12]) w) rfl ?_
    refine kx_st 6 (pc' := 135) (L' := [some (.ref 53), some (.int 12), some (.int x), some (.int (nI dp))]) (st' := [.int (x - ((kx_nx g c [12]) 53 3))]) (h' := kv_wd (kx_nx g c [12]) w) rfl ?_
    refine kx_ret (v := some (.int (x - ((kx_nx g c [12]) 53 3)))) rfl ?_
    exact ⟨by rw [show (kx_nx g c [12]) 53 3 = M from (kx_VS_nx [12] hs).2.2.1], rfl⟩
  · exact absurd (nI_le (a := dp) (b := 20) (by omega) (by omega)) h3
set_option maxRecDepth 100000 in
theorem ev_own_5_2 {E : kv_V} {d : Nat} {g : kv_S} {w : kv_W} (hE1 : E 1001 = some (0, 7, kv_KA)) (hE3 : E 1003 = some (0, 28, kv_BO)) (N M : Int32) (c : Nat) (hs : kx_VS g c N M 5) (h40 : c + 1 ≤ 40) (x : Int32) (dp : Nat) (hd : dp + 1 ≤ 20) : kv_ev E (d + 3) 77 [.ref 53, .int 2, .int x, .int (nI dp)] (kv_wd g w) (some (.int (x - M))) (kv_wd (kx_nx g c [12]) w) := by
  refine kx_ev (d := d + 2) (by decide) (Nat.le_of_ble_eq_true rfl) ?_
  refine kx_st 0 (pc' := 0) (L' := [some (.ref 53), some (.int 2), some (.int x), some (.int (nI dp))]) (st' := []) (h' := kv_wd g w) rfl ?_
  refine kx_st 4 (pc' := 6) (L' := [some (.ref 53), some (.int 2), some (.int x), some (.int (nI dp))]) (st' := [.int 2, .int (g 53 4), .ref 53]) (h' := kv_wd g w) rfl ?_
  refine kx_call (z := 75) (as := [.int (g 53 4), .int 2]) (rest := [.ref 53]) (v := some (.int 12)) (h1 := kv_wd g w) rfl (by rw [show g 53 4 = 5 from hs.2.2.2]; exact ev_bodyOf_5_2 (d := d + 0) hE1 hE3) ?_
  refine kx_st 0 (pc' := 9) (L' := [some (.ref 53), some (.int 2), some (.int x), some (.int (nI dp))]) (st' := [.int 12, .ref 53]) (h' := kv_wd g w) rfl ?_
  refine kx_st 4 (pc' := 13) (L' := [some (.ref 53), some (.int 2), some (.int x), some (.int (nI dp))]) (st' := [.int ((nI dp) + 1), .int x, .int 12, .ref 53]) (h' := kv_wd g w) rfl ?_
  refine kx_call (z := 79) (as := [.ref 53, .int 12, .int x, .int ((nI dp) + 1)]) (rest := []) (v := some (.int (x - M))) (h1 := kv_wd (kx_nx g c [12]) w) rfl (by rw [← nI_succ]; exact ev_run_5_12 (d := d + 0) hE1 hE3 N M c hs h40 x (dp + 1) (by omega)) ?_
  refine kx_st 0 (pc' := 16) (L' := [some (.ref 53), some (.int 2), some (.int x), some (.int (nI dp))]) (st' := [.int (x - M)]) (h' := kv_wd (kx_nx g c [12]) w) rfl ?_
  refine kx_ret (v := some (.int (x - M))) rfl ?_
  exact ⟨rfl, rfl⟩
set_option maxRecDepth 100000 in
theorem ev_run_5_30 {E : kv_V} {d : Nat} {g : kv_S} {w : kv_W} (hE1 : E 1001 = some (0, 7, kv_KA)) (hE3 : E 1003 = some (0, 28, kv_BO)) (N M : Int32) (c : Nat) (hs : kx_VS g c N M 5) (h40 : c + 4 ≤ 40) (x : Int32) (dp : Nat) (hd : dp + 2 ≤ 20) : kv_ev E (d + 6) 79 [.ref 53, .int 30, .int x, .int (nI dp)] (kv_wd g w) (some (.int (((x + N) * 2) - (1 - M)))) (kv_wd (kx_nx g c [30, 11, 10, 12]) w) := by
  refine kx_ev (d := d + 5) (by decide) (Nat.le_of_ble_eq_true rfl) ?_
  refine kx_st 0 (pc' := 0) (L' := [some (.ref 53), some (.int 30), some (.int x), some (.int (nI dp))]) (st' := []) (h' := kv_wd g w) rfl ?_
  refine kx_st 2 (pc' := 3) (L' := [some (.ref 53), some (.int 30), some (.int x), some (.int (nI dp))]) (st' := [.int 20, .int (nI dp)]) (h' := kv_wd g w) rfl ?_
  refine kx_bi (t := 8) rfl rfl (fun (h3 : nI dp ≤ 20) => ?_) (fun (h3 : ¬ (nI dp ≤ 20)) => ?_)
  · refine kx_st 2 (pc' := 10) (L' := [some (.ref 53), some (.int 30), some (.int x), some (.int (nI dp))]) (st' := [.int 30, .ref 53]) (h' := kv_wd g w) rfl ?_
    refine kx_call (z := 76) (as := [.ref 53, .int 30]) (rest := []) (v := none) (h1 := kv_wd (kx_nx g c [30]) w) rfl (ev_note (d := d + 4) c hs.1 (by omega) 30) ?_
    refine kx_st 0 (pc' := 13) (L' := [some (.ref 53), some (.int 30), some (.int x), some (.int (nI dp))]) (st' := []) (h' := kv_wd (kx_nx g c [30]) w) rfl ?_
    refine kx_st 7 (pc' := 168) (L' := [some (.ref 53), some (.int 30), some (.int x), some (.int (nI dp))]) (st' := [.int (nI dp), .int x, .int 1, .int 2, .ref 53]) (h' := kv_wd (kx_nx g c [30]) w) rfl ?_
    refine kx_call (z := 78) (as := [.ref 53, .int 2, .int 1, .int x, .int (nI dp)]) (rest := []) (v := some (.int ((x + N) * 2))) (h1 := kv_wd (kx_nx g c [30, 11, 10]) w) rfl (by rw [← show kx_nx (kx_nx g c [30]) (c + 1) [11, 10] = kx_nx g c [30, 11, 10] from kx_nx_app g c [30] [11, 10]]; exact ev_abv_5_2_1 (d := d + 0) (g := kx_nx g c [30]) hE1 hE3 N M (c + 1) (kx_VS_nx [30] hs) (by omega) x dp (by omega)) ?_
    refine kx_st 0 (pc' := 171) (L' := [some (.ref 53), some (.int 30), some (.int x), some (.int (nI dp))]) (st' := [.int ((x + N) * 2)]) (h' := kv_wd (kx_nx g c [30, 11, 10]) w) rfl ?_
    refine kx_st 4 (pc' := 175) (L' := [some (.ref 53), some (.int 30), some (.int x), some (.int (nI dp))]) (st' := [.int (nI dp), .int 1, .int 2, .ref 53, .int ((x + N) * 2)]) (h' := kv_wd (kx_nx g c [30, 11, 10]) w) rfl ?_
    refine kx_call (z := 77) (as := [.ref 53, .int 2, .int 1, .int (nI dp)]) (rest := [.int ((x + N) * 2)]) (v := some (.int (1 - M))) (h1 := kv_wd (kx_nx g c [30, 11, 10, 12]) w) rfl (by rw [← show kx_nx (kx_nx g c [30, 11, 10]) (c + 3) [12] = kx_nx g c [30, 11, 10, 12] from kx_nx_app g c [30, 11, 10] [12]]; exact ev_own_5_2 (d := d + 2) (g := kx_nx g c [30, 11, 10]) hE1 hE3 N M (c + 3) (kx_VS_nx [30, 11, 10] hs) (by omega) 1 dp (by omega)) ?_
    refine kx_st 0 (pc' := 178) (L' := [some (.ref 53), some (.int 30), some (.int x), some (.int (nI dp))]) (st' := [.int (1 - M), .int ((x + N) * 2)]) (h' := kv_wd (kx_nx g c [30, 11, 10, 12]) w) rfl ?_
    refine kx_st 1 (pc' := 179) (L' := [some (.ref 53), some (.int 30), some (.int x), some (.int (nI dp))]) (st' := [.int (((x + N) * 2) - (1 - M))]) (h' := kv_wd (kx_nx g c [30, 11, 10, 12]) w) rfl ?_
    refine kx_ret (v := some (.int (((x + N) * 2) - (1 - M)))) rfl ?_
    exact ⟨rfl, rfl⟩
  · exact absurd (nI_le (a := dp) (b := 20) (by omega) (by omega)) h3
set_option maxRecDepth 100000 in
theorem ev_abv_5_5_1 {E : kv_V} {d : Nat} {g : kv_S} {w : kv_W} (hE1 : E 1001 = some (0, 7, kv_KA)) (hE3 : E 1003 = some (0, 28, kv_BO)) (N M : Int32) (c : Nat) (hs : kx_VS g c N M 5) (h40 : c + 4 ≤ 40) (x : Int32) (dp : Nat) (hd : dp + 3 ≤ 20) : kv_ev E (d + 7) 78 [.ref 53, .int 5, .int 1, .int x, .int (nI dp)] (kv_wd g w) (some (.int (((x + N) * 2) - (1 - M)))) (kv_wd (kx_nx g c [30, 11, 10, 12]) w) := by
  refine kx_ev (d := d + 6) (by decide) (Nat.le_of_ble_eq_true rfl) ?_
  refine kx_st 0 (pc' := 0) (L' := [some (.ref 53), some (.int 5), some (.int 1), some (.int x), some (.int (nI dp))]) (st' := []) (h' := kv_wd g w) rfl ?_
  refine kx_st 2 (pc' := 2) (L' := [some (.ref 53), some (.int 5), some (.int 1), some (.int x), some (.int (nI dp))]) (st' := [.int 5, .ref 53]) (h' := kv_wd g w) rfl ?_
  refine kx_call (z := 28) (as := [.int 5]) (rest := [.ref 53]) (v := some (.int 2)) (h1 := kv_wd g w) rfl (ev_above_5 (d := d + 5) hE1) ?_
  refine kx_st 0 (pc' := 5) (L' := [some (.ref 53), some (.int 5), some (.int 1), some (.int x), some (.int (nI dp))]) (st' := [.int 2, .ref 53]) (h' := kv_wd g w) rfl ?_
  refine kx_st 1 (pc' := 6) (L' := [some (.ref 53), some (.int 5), some (.int 1), some (.int x), some (.int (nI dp))]) (st' := [.int 1, .int 2, .ref 53]) (h' := kv_wd g w) rfl ?_
  refine kx_call (z := 75) (as := [.int 2, .int 1]) (rest := [.ref 53]) (v := some (.int 30)) (h1 := kv_wd g w) rfl (ev_bodyOf_2_1 (d := d + 4) hE1 hE3) ?_
  refine kx_st 0 (pc' := 9) (L' := [some (.ref 53), some (.int 5), some (.int 1), some (.int x), some (.int (nI dp))]) (st' := [.int 30, .ref 53]) (h' := kv_wd g w) rfl ?_
  refine kx_st 4 (pc' := 14) (L' := [some (.ref 53), some (.int 5), some (.int 1), some (.int x), some (.int (nI dp))]) (st' := [.int ((nI dp) + 1), .int x, .int 30, .ref 53]) (h' := kv_wd g w) rfl ?_
  refine kx_call (z := 79) (as := [.ref 53, .int 30, .int x, .int ((nI dp) + 1)]) (rest := []) (v := some (.int (((x + N) * 2) - (1 - M)))) (h1 := kv_wd (kx_nx g c [30, 11, 10, 12]) w) rfl (by rw [← nI_succ]; exact ev_run_5_30 (d := d + 0) hE1 hE3 N M c hs h40 x (dp + 1) (by omega)) ?_
  refine kx_st 0 (pc' := 17) (L' := [some (.ref 53), some (.int 5), some (.int 1), some (.int x), some (.int (nI dp))]) (st' := [.int (((x + N) * 2) - (1 - M))]) (h' := kv_wd (kx_nx g c [30, 11, 10, 12]) w) rfl ?_
  refine kx_ret (v := some (.int (((x + N) * 2) - (1 - M)))) rfl ?_
  exact ⟨rfl, rfl⟩
set_option maxRecDepth 100000 in
theorem ev_run_5_60 {E : kv_V} {d : Nat} {g : kv_S} {w : kv_W} (hE1 : E 1001 = some (0, 7, kv_KA)) (hE3 : E 1003 = some (0, 28, kv_BO)) (N M : Int32) (c : Nat) (hs : kx_VS g c N M 5) (h40 : c + 5 ≤ 40) (x : Int32) (dp : Nat) (hd : dp + 3 ≤ 20) : kv_ev E (d + 8) 79 [.ref 53, .int 60, .int x, .int (nI dp)] (kv_wd g w) (some (.int ((((x + 1) + N) * 2) - (1 - M)))) (kv_wd (kx_nx g c [60, 30, 11, 10, 12]) w) := by
  refine kx_ev (d := d + 7) (by decide) (Nat.le_of_ble_eq_true rfl) ?_
  refine kx_st 0 (pc' := 0) (L' := [some (.ref 53), some (.int 60), some (.int x), some (.int (nI dp))]) (st' := []) (h' := kv_wd g w) rfl ?_
  refine kx_st 2 (pc' := 3) (L' := [some (.ref 53), some (.int 60), some (.int x), some (.int (nI dp))]) (st' := [.int 20, .int (nI dp)]) (h' := kv_wd g w) rfl ?_
  refine kx_bi (t := 8) rfl rfl (fun (h3 : nI dp ≤ 20) => ?_) (fun (h3 : ¬ (nI dp ≤ 20)) => ?_)
  · refine kx_st 2 (pc' := 10) (L' := [some (.ref 53), some (.int 60), some (.int x), some (.int (nI dp))]) (st' := [.int 60, .ref 53]) (h' := kv_wd g w) rfl ?_
    refine kx_call (z := 76) (as := [.ref 53, .int 60]) (rest := []) (v := none) (h1 := kv_wd (kx_nx g c [60]) w) rfl (ev_note (d := d + 6) c hs.1 (by omega) 60) ?_
    refine kx_st 0 (pc' := 13) (L' := [some (.ref 53), some (.int 60), some (.int x), some (.int (nI dp))]) (st' := []) (h' := kv_wd (kx_nx g c [60]) w) rfl ?_
    refine kx_st 9 (pc' := 214) (L' := [some (.ref 53), some (.int 60), some (.int x), some (.int (nI dp))]) (st' := [.int (nI dp), .int (x + 1), .int 1, .int 5, .ref 53]) (h' := kv_wd (kx_nx g c [60]) w) rfl ?_
    refine kx_call (z := 78) (as := [.ref 53, .int 5, .int 1, .int (x + 1), .int (nI dp)]) (rest := []) (v := some (.int ((((x + 1) + N) * 2) - (1 - M)))) (h1 := kv_wd (kx_nx g c [60, 30, 11, 10, 12]) w) rfl (by rw [← show kx_nx (kx_nx g c [60]) (c + 1) [30, 11, 10, 12] = kx_nx g c [60, 30, 11, 10, 12] from kx_nx_app g c [60] [30, 11, 10, 12]]; exact ev_abv_5_5_1 (d := d + 0) (g := kx_nx g c [60]) hE1 hE3 N M (c + 1) (kx_VS_nx [60] hs) (by omega) (x + 1) dp (by omega)) ?_
    refine kx_st 0 (pc' := 217) (L' := [some (.ref 53), some (.int 60), some (.int x), some (.int (nI dp))]) (st' := [.int ((((x + 1) + N) * 2) - (1 - M))]) (h' := kv_wd (kx_nx g c [60, 30, 11, 10, 12]) w) rfl ?_
    refine kx_ret (v := some (.int ((((x + 1) + N) * 2) - (1 - M)))) rfl ?_
    exact ⟨rfl, rfl⟩
  · exact absurd (nI_le (a := dp) (b := 20) (by omega) (by omega)) h3
set_option maxRecDepth 100000 in
theorem ev_own_5_1 {E : kv_V} {d : Nat} {g : kv_S} {w : kv_W} (hE1 : E 1001 = some (0, 7, kv_KA)) (hE3 : E 1003 = some (0, 28, kv_BO)) (N M : Int32) (c : Nat) (hs : kx_VS g c N M 5) (h40 : c + 5 ≤ 40) (x : Int32) (dp : Nat) (hd : dp + 4 ≤ 20) : kv_ev E (d + 9) 77 [.ref 53, .int 1, .int x, .int (nI dp)] (kv_wd g w) (some (.int ((((x + 1) + N) * 2) - (1 - M)))) (kv_wd (kx_nx g c [60, 30, 11, 10, 12]) w) := by
  refine kx_ev (d := d + 8) (by decide) (Nat.le_of_ble_eq_true rfl) ?_
  refine kx_st 0 (pc' := 0) (L' := [some (.ref 53), some (.int 1), some (.int x), some (.int (nI dp))]) (st' := []) (h' := kv_wd g w) rfl ?_
  refine kx_st 4 (pc' := 6) (L' := [some (.ref 53), some (.int 1), some (.int x), some (.int (nI dp))]) (st' := [.int 1, .int (g 53 4), .ref 53]) (h' := kv_wd g w) rfl ?_
  refine kx_call (z := 75) (as := [.int (g 53 4), .int 1]) (rest := [.ref 53]) (v := some (.int 60)) (h1 := kv_wd g w) rfl (by rw [show g 53 4 = 5 from hs.2.2.2]; exact ev_bodyOf_5_1 (d := d + 6) hE1 hE3) ?_
  refine kx_st 0 (pc' := 9) (L' := [some (.ref 53), some (.int 1), some (.int x), some (.int (nI dp))]) (st' := [.int 60, .ref 53]) (h' := kv_wd g w) rfl ?_
  refine kx_st 4 (pc' := 13) (L' := [some (.ref 53), some (.int 1), some (.int x), some (.int (nI dp))]) (st' := [.int ((nI dp) + 1), .int x, .int 60, .ref 53]) (h' := kv_wd g w) rfl ?_
  refine kx_call (z := 79) (as := [.ref 53, .int 60, .int x, .int ((nI dp) + 1)]) (rest := []) (v := some (.int ((((x + 1) + N) * 2) - (1 - M)))) (h1 := kv_wd (kx_nx g c [60, 30, 11, 10, 12]) w) rfl (by rw [← nI_succ]; exact ev_run_5_60 (d := d + 0) hE1 hE3 N M c hs h40 x (dp + 1) (by omega)) ?_
  refine kx_st 0 (pc' := 16) (L' := [some (.ref 53), some (.int 1), some (.int x), some (.int (nI dp))]) (st' := [.int ((((x + 1) + N) * 2) - (1 - M))]) (h' := kv_wd (kx_nx g c [60, 30, 11, 10, 12]) w) rfl ?_
  refine kx_ret (v := some (.int ((((x + 1) + N) * 2) - (1 - M)))) rfl ?_
  exact ⟨rfl, rfl⟩
set_option maxRecDepth 100000 in
theorem ev_run_5_13 {E : kv_V} {d : Nat} {g : kv_S} {w : kv_W} (hE1 : E 1001 = some (0, 7, kv_KA)) (hE3 : E 1003 = some (0, 28, kv_BO)) (N M : Int32) (c : Nat) (hs : kx_VS g c N M 5) (h40 : c + 7 ≤ 40) (x : Int32) (dp : Nat) (hd : dp + 4 ≤ 20) : kv_ev E (d + 10) 79 [.ref 53, .int 13, .int x, .int (nI dp)] (kv_wd g w) (some (.int (((((x + 1) + N) * 2) - (1 - M)) ^^^ (x - M)))) (kv_wd (kx_nx g c [13, 60, 30, 11, 10, 12, 12]) w) := by
  refine kx_ev (d := d + 9) (by decide) (Nat.le_of_ble_eq_true rfl) ?_
  refine kx_st 0 (pc' := 0) (L' := [some (.ref 53), some (.int 13), some (.int x), some (.int (nI dp))]) (st' := []) (h' := kv_wd g w) rfl ?_
  refine kx_st 2 (pc' := 3) (L' := [some (.ref 53), some (.int 13), some (.int x), some (.int (nI dp))]) (st' := [.int 20, .int (nI dp)]) (h' := kv_wd g w) rfl ?_
  refine kx_bi (t := 8) rfl rfl (fun (h3 : nI dp ≤ 20) => ?_) (fun (h3 : ¬ (nI dp ≤ 20)) => ?_)
  · refine kx_st 2 (pc' := 10) (L' := [some (.ref 53), some (.int 13), some (.int x), some (.int (nI dp))]) (st' := [.int 13, .ref 53]) (h' := kv_wd g w) rfl ?_
    refine kx_call (z := 76) (as := [.ref 53, .int 13]) (rest := []) (v := none) (h1 := kv_wd (kx_nx g c [13]) w) rfl (ev_note (d := d + 8) c hs.1 (by omega) 13) ?_
    refine kx_st 0 (pc' := 13) (L' := [some (.ref 53), some (.int 13), some (.int x), some (.int (nI dp))]) (st' := []) (h' := kv_wd (kx_nx g c [13]) w) rfl ?_
    refine kx_st 6 (pc' := 140) (L' := [some (.ref 53), some (.int 13), some (.int x), some (.int (nI dp))]) (st' := [.int (nI dp), .int x, .int 1, .ref 53]) (h' := kv_wd (kx_nx g c [13]) w) rfl ?_
    refine kx_call (z := 77) (as := [.ref 53, .int 1, .int x, .int (nI dp)]) (rest := []) (v := some (.int ((((x + 1) + N) * 2) - (1 - M)))) (h1 := kv_wd (kx_nx g c [13, 60, 30, 11, 10, 12]) w) rfl (by rw [← show kx_nx (kx_nx g c [13]) (c + 1) [60, 30, 11, 10, 12] = kx_nx g c [13, 60, 30, 11, 10, 12] from kx_nx_app g c [13] [60, 30, 11, 10, 12]]; exact ev_own_5_1 (d := d + 0) (g := kx_nx g c [13]) hE1 hE3 N M (c + 1) (kx_VS_nx [13] hs) (by omega) x dp (by omega)) ?_
    refine kx_st 0 (pc' := 143) (L' := [some (.ref 53), some (.int 13), some (.int x), some (.int (nI dp))]) (st' := [.int ((((x + 1) + N) * 2) - (1 - M))]) (h' := kv_wd (kx_nx g c [13, 60, 30, 11, 10, 12]) w) rfl ?_
    refine kx_st 4 (pc' := 147) (L' := [some (.ref 53), some (.int 13), some (.int x), some (.int (nI dp))]) (st' := [.int (nI dp), .int x, .int 2, .ref 53, .int ((((x + 1) + N) * 2) - (1 - M))]) (h' := kv_wd (kx_nx g c [13, 60, 30, 11, 10, 12]) w) rfl ?_
    refine kx_call (z := 77) (as := [.ref 53, .int 2, .int x, .int (nI dp)]) (rest := [.int ((((x + 1) + N) * 2) - (1 - M))]) (v := some (.int (x - M))) (h1 := kv_wd (kx_nx g c [13, 60, 30, 11, 10, 12, 12]) w) rfl (by rw [← show kx_nx (kx_nx g c [13, 60, 30, 11, 10, 12]) (c + 6) [12] = kx_nx g c [13, 60, 30, 11, 10, 12, 12] from kx_nx_app g c [13, 60, 30, 11, 10, 12] [12]]; exact ev_own_5_2 (d := d + 6) (g := kx_nx g c [13, 60, 30, 11, 10, 12]) hE1 hE3 N M (c + 6) (kx_VS_nx [13, 60, 30, 11, 10, 12] hs) (by omega) x dp (by omega)) ?_
    refine kx_st 0 (pc' := 150) (L' := [some (.ref 53), some (.int 13), some (.int x), some (.int (nI dp))]) (st' := [.int (x - M), .int ((((x + 1) + N) * 2) - (1 - M))]) (h' := kv_wd (kx_nx g c [13, 60, 30, 11, 10, 12, 12]) w) rfl ?_
    refine kx_st 1 (pc' := 151) (L' := [some (.ref 53), some (.int 13), some (.int x), some (.int (nI dp))]) (st' := [.int (((((x + 1) + N) * 2) - (1 - M)) ^^^ (x - M))]) (h' := kv_wd (kx_nx g c [13, 60, 30, 11, 10, 12, 12]) w) rfl ?_
    refine kx_ret (v := some (.int (((((x + 1) + N) * 2) - (1 - M)) ^^^ (x - M)))) rfl ?_
    exact ⟨rfl, rfl⟩
  · exact absurd (nI_le (a := dp) (b := 20) (by omega) (by omega)) h3
set_option maxRecDepth 100000 in
theorem ev_own_5_3 {E : kv_V} {d : Nat} {g : kv_S} {w : kv_W} (hE1 : E 1001 = some (0, 7, kv_KA)) (hE3 : E 1003 = some (0, 28, kv_BO)) (N M : Int32) (c : Nat) (hs : kx_VS g c N M 5) (h40 : c + 7 ≤ 40) (x : Int32) (dp : Nat) (hd : dp + 5 ≤ 20) : kv_ev E (d + 11) 77 [.ref 53, .int 3, .int x, .int (nI dp)] (kv_wd g w) (some (.int (((((x + 1) + N) * 2) - (1 - M)) ^^^ (x - M)))) (kv_wd (kx_nx g c [13, 60, 30, 11, 10, 12, 12]) w) := by
  refine kx_ev (d := d + 10) (by decide) (Nat.le_of_ble_eq_true rfl) ?_
  refine kx_st 0 (pc' := 0) (L' := [some (.ref 53), some (.int 3), some (.int x), some (.int (nI dp))]) (st' := []) (h' := kv_wd g w) rfl ?_
  refine kx_st 4 (pc' := 6) (L' := [some (.ref 53), some (.int 3), some (.int x), some (.int (nI dp))]) (st' := [.int 3, .int (g 53 4), .ref 53]) (h' := kv_wd g w) rfl ?_
  refine kx_call (z := 75) (as := [.int (g 53 4), .int 3]) (rest := [.ref 53]) (v := some (.int 13)) (h1 := kv_wd g w) rfl (by rw [show g 53 4 = 5 from hs.2.2.2]; exact ev_bodyOf_5_3 (d := d + 8) hE1 hE3) ?_
  refine kx_st 0 (pc' := 9) (L' := [some (.ref 53), some (.int 3), some (.int x), some (.int (nI dp))]) (st' := [.int 13, .ref 53]) (h' := kv_wd g w) rfl ?_
  refine kx_st 4 (pc' := 13) (L' := [some (.ref 53), some (.int 3), some (.int x), some (.int (nI dp))]) (st' := [.int ((nI dp) + 1), .int x, .int 13, .ref 53]) (h' := kv_wd g w) rfl ?_
  refine kx_call (z := 79) (as := [.ref 53, .int 13, .int x, .int ((nI dp) + 1)]) (rest := []) (v := some (.int (((((x + 1) + N) * 2) - (1 - M)) ^^^ (x - M)))) (h1 := kv_wd (kx_nx g c [13, 60, 30, 11, 10, 12, 12]) w) rfl (by rw [← nI_succ]; exact ev_run_5_13 (d := d + 0) hE1 hE3 N M c hs h40 x (dp + 1) (by omega)) ?_
  refine kx_st 0 (pc' := 16) (L' := [some (.ref 53), some (.int 3), some (.int x), some (.int (nI dp))]) (st' := [.int (((((x + 1) + N) * 2) - (1 - M)) ^^^ (x - M))]) (h' := kv_wd (kx_nx g c [13, 60, 30, 11, 10, 12, 12]) w) rfl ?_
  refine kx_ret (v := some (.int (((((x + 1) + N) * 2) - (1 - M)) ^^^ (x - M)))) rfl ?_
  exact ⟨rfl, rfl⟩
set_option maxRecDepth 100000 in
theorem ev_run_6_10 {E : kv_V} {d : Nat} {g : kv_S} {w : kv_W} (hE1 : E 1001 = some (0, 7, kv_KA)) (hE3 : E 1003 = some (0, 28, kv_BO)) (N M : Int32) (c : Nat) (hs : kx_VS g c N M 6) (h40 : c + 1 ≤ 40) (x : Int32) (dp : Nat) (hd : dp + 0 ≤ 20) : kv_ev E (d + 2) 79 [.ref 53, .int 10, .int x, .int (nI dp)] (kv_wd g w) (some (.int (x + N))) (kv_wd (kx_nx g c [10]) w) := by
  refine kx_ev (d := d + 1) (by decide) (Nat.le_of_ble_eq_true rfl) ?_
  refine kx_st 0 (pc' := 0) (L' := [some (.ref 53), some (.int 10), some (.int x), some (.int (nI dp))]) (st' := []) (h' := kv_wd g w) rfl ?_
  refine kx_st 2 (pc' := 3) (L' := [some (.ref 53), some (.int 10), some (.int x), some (.int (nI dp))]) (st' := [.int 20, .int (nI dp)]) (h' := kv_wd g w) rfl ?_
  refine kx_bi (t := 8) rfl rfl (fun (h3 : nI dp ≤ 20) => ?_) (fun (h3 : ¬ (nI dp ≤ 20)) => ?_)
  · refine kx_st 2 (pc' := 10) (L' := [some (.ref 53), some (.int 10), some (.int x), some (.int (nI dp))]) (st' := [.int 10, .ref 53]) (h' := kv_wd g w) rfl ?_
    refine kx_call (z := 76) (as := [.ref 53, .int 10]) (rest := []) (v := none) (h1 := kv_wd (kx_nx g c [10]) w) rfl (ev_note (d := d + 0) c hs.1 (by omega) 10) ?_
    refine kx_st 0 (pc' := 13) (L' := [some (.ref 53), some (.int 10), some (.int x), some (.int (nI dp))]) (st' := []) (h' := kv_wd (kx_nx g c [10]) w) rfl ?_
    refine kx_st 6 (pc' := 118) (L' := [some (.ref 53), some (.int 10), some (.int x), some (.int (nI dp))]) (st' := [.int (x + ((kx_nx g c [10]) 53 2))]) (h' := kv_wd (kx_nx g c [10]) w) rfl ?_
    refine kx_ret (v := some (.int (x + ((kx_nx g c [10]) 53 2)))) rfl ?_
    exact ⟨by rw [show (kx_nx g c [10]) 53 2 = N from (kx_VS_nx [10] hs).2.1], rfl⟩
  · exact absurd (nI_le (a := dp) (b := 20) (by omega) (by omega)) h3
set_option maxRecDepth 100000 in
theorem ev_own_6_0 {E : kv_V} {d : Nat} {g : kv_S} {w : kv_W} (hE1 : E 1001 = some (0, 7, kv_KA)) (hE3 : E 1003 = some (0, 28, kv_BO)) (N M : Int32) (c : Nat) (hs : kx_VS g c N M 6) (h40 : c + 1 ≤ 40) (x : Int32) (dp : Nat) (hd : dp + 1 ≤ 20) : kv_ev E (d + 3) 77 [.ref 53, .int 0, .int x, .int (nI dp)] (kv_wd g w) (some (.int (x + N))) (kv_wd (kx_nx g c [10]) w) := by
  refine kx_ev (d := d + 2) (by decide) (Nat.le_of_ble_eq_true rfl) ?_
  refine kx_st 0 (pc' := 0) (L' := [some (.ref 53), some (.int 0), some (.int x), some (.int (nI dp))]) (st' := []) (h' := kv_wd g w) rfl ?_
  refine kx_st 4 (pc' := 6) (L' := [some (.ref 53), some (.int 0), some (.int x), some (.int (nI dp))]) (st' := [.int 0, .int (g 53 4), .ref 53]) (h' := kv_wd g w) rfl ?_
  refine kx_call (z := 75) (as := [.int (g 53 4), .int 0]) (rest := [.ref 53]) (v := some (.int 10)) (h1 := kv_wd g w) rfl (by rw [show g 53 4 = 6 from hs.2.2.2]; exact ev_bodyOf_6_0 (d := d + 0) hE1 hE3) ?_
  refine kx_st 0 (pc' := 9) (L' := [some (.ref 53), some (.int 0), some (.int x), some (.int (nI dp))]) (st' := [.int 10, .ref 53]) (h' := kv_wd g w) rfl ?_
  refine kx_st 4 (pc' := 13) (L' := [some (.ref 53), some (.int 0), some (.int x), some (.int (nI dp))]) (st' := [.int ((nI dp) + 1), .int x, .int 10, .ref 53]) (h' := kv_wd g w) rfl ?_
  refine kx_call (z := 79) (as := [.ref 53, .int 10, .int x, .int ((nI dp) + 1)]) (rest := []) (v := some (.int (x + N))) (h1 := kv_wd (kx_nx g c [10]) w) rfl (by rw [← nI_succ]; exact ev_run_6_10 (d := d + 0) hE1 hE3 N M c hs h40 x (dp + 1) (by omega)) ?_
  refine kx_st 0 (pc' := 16) (L' := [some (.ref 53), some (.int 0), some (.int x), some (.int (nI dp))]) (st' := [.int (x + N)]) (h' := kv_wd (kx_nx g c [10]) w) rfl ?_
  refine kx_ret (v := some (.int (x + N))) rfl ?_
  exact ⟨rfl, rfl⟩
set_option maxRecDepth 100000 in
theorem ev_run_6_11 {E : kv_V} {d : Nat} {g : kv_S} {w : kv_W} (hE1 : E 1001 = some (0, 7, kv_KA)) (hE3 : E 1003 = some (0, 28, kv_BO)) (N M : Int32) (c : Nat) (hs : kx_VS g c N M 6) (h40 : c + 2 ≤ 40) (x : Int32) (dp : Nat) (hd : dp + 1 ≤ 20) : kv_ev E (d + 4) 79 [.ref 53, .int 11, .int x, .int (nI dp)] (kv_wd g w) (some (.int ((x + N) * 2))) (kv_wd (kx_nx g c [11, 10]) w) := by
  refine kx_ev (d := d + 3) (by decide) (Nat.le_of_ble_eq_true rfl) ?_
  refine kx_st 0 (pc' := 0) (L' := [some (.ref 53), some (.int 11), some (.int x), some (.int (nI dp))]) (st' := []) (h' := kv_wd g w) rfl ?_
  refine kx_st 2 (pc' := 3) (L' := [some (.ref 53), some (.int 11), some (.int x), some (.int (nI dp))]) (st' := [.int 20, .int (nI dp)]) (h' := kv_wd g w) rfl ?_
  refine kx_bi (t := 8) rfl rfl (fun (h3 : nI dp ≤ 20) => ?_) (fun (h3 : ¬ (nI dp ≤ 20)) => ?_)
  · refine kx_st 2 (pc' := 10) (L' := [some (.ref 53), some (.int 11), some (.int x), some (.int (nI dp))]) (st' := [.int 11, .ref 53]) (h' := kv_wd g w) rfl ?_
    refine kx_call (z := 76) (as := [.ref 53, .int 11]) (rest := []) (v := none) (h1 := kv_wd (kx_nx g c [11]) w) rfl (ev_note (d := d + 2) c hs.1 (by omega) 11) ?_
    refine kx_st 0 (pc' := 13) (L' := [some (.ref 53), some (.int 11), some (.int x), some (.int (nI dp))]) (st' := []) (h' := kv_wd (kx_nx g c [11]) w) rfl ?_
    refine kx_st 6 (pc' := 123) (L' := [some (.ref 53), some (.int 11), some (.int x), some (.int (nI dp))]) (st' := [.int (nI dp), .int x, .int 0, .ref 53]) (h' := kv_wd (kx_nx g c [11]) w) rfl ?_
    refine kx_call (z := 77) (as := [.ref 53, .int 0, .int x, .int (nI dp)]) (rest := []) (v := some (.int (x + N))) (h1 := kv_wd (kx_nx g c [11, 10]) w) rfl (by rw [← show kx_nx (kx_nx g c [11]) (c + 1) [10] = kx_nx g c [11, 10] from kx_nx_app g c [11] [10]]; exact ev_own_6_0 (d := d + 0) (g := kx_nx g c [11]) hE1 hE3 N M (c + 1) (kx_VS_nx [11] hs) (by omega) x dp (by omega)) ?_
    refine kx_st 0 (pc' := 126) (L' := [some (.ref 53), some (.int 11), some (.int x), some (.int (nI dp))]) (st' := [.int (x + N)]) (h' := kv_wd (kx_nx g c [11, 10]) w) rfl ?_
    refine kx_st 2 (pc' := 128) (L' := [some (.ref 53), some (.int 11), some (.int x), some (.int (nI dp))]) (st' := [.int ((x + N) * 2)]) (h' := kv_wd (kx_nx g c [11, 10]) w) rfl ?_
    refine kx_ret (v := some (.int ((x + N) * 2))) rfl ?_
    exact ⟨rfl, rfl⟩
  · exact absurd (nI_le (a := dp) (b := 20) (by omega) (by omega)) h3
set_option maxRecDepth 100000 in
theorem ev_own_6_1 {E : kv_V} {d : Nat} {g : kv_S} {w : kv_W} (hE1 : E 1001 = some (0, 7, kv_KA)) (hE3 : E 1003 = some (0, 28, kv_BO)) (N M : Int32) (c : Nat) (hs : kx_VS g c N M 6) (h40 : c + 2 ≤ 40) (x : Int32) (dp : Nat) (hd : dp + 2 ≤ 20) : kv_ev E (d + 5) 77 [.ref 53, .int 1, .int x, .int (nI dp)] (kv_wd g w) (some (.int ((x + N) * 2))) (kv_wd (kx_nx g c [11, 10]) w) := by
  refine kx_ev (d := d + 4) (by decide) (Nat.le_of_ble_eq_true rfl) ?_
  refine kx_st 0 (pc' := 0) (L' := [some (.ref 53), some (.int 1), some (.int x), some (.int (nI dp))]) (st' := []) (h' := kv_wd g w) rfl ?_
  refine kx_st 4 (pc' := 6) (L' := [some (.ref 53), some (.int 1), some (.int x), some (.int (nI dp))]) (st' := [.int 1, .int (g 53 4), .ref 53]) (h' := kv_wd g w) rfl ?_
  refine kx_call (z := 75) (as := [.int (g 53 4), .int 1]) (rest := [.ref 53]) (v := some (.int 11)) (h1 := kv_wd g w) rfl (by rw [show g 53 4 = 6 from hs.2.2.2]; exact ev_bodyOf_6_1 (d := d + 2) hE1 hE3) ?_
  refine kx_st 0 (pc' := 9) (L' := [some (.ref 53), some (.int 1), some (.int x), some (.int (nI dp))]) (st' := [.int 11, .ref 53]) (h' := kv_wd g w) rfl ?_
  refine kx_st 4 (pc' := 13) (L' := [some (.ref 53), some (.int 1), some (.int x), some (.int (nI dp))]) (st' := [.int ((nI dp) + 1), .int x, .int 11, .ref 53]) (h' := kv_wd g w) rfl ?_
  refine kx_call (z := 79) (as := [.ref 53, .int 11, .int x, .int ((nI dp) + 1)]) (rest := []) (v := some (.int ((x + N) * 2))) (h1 := kv_wd (kx_nx g c [11, 10]) w) rfl (by rw [← nI_succ]; exact ev_run_6_11 (d := d + 0) hE1 hE3 N M c hs h40 x (dp + 1) (by omega)) ?_
  refine kx_st 0 (pc' := 16) (L' := [some (.ref 53), some (.int 1), some (.int x), some (.int (nI dp))]) (st' := [.int ((x + N) * 2)]) (h' := kv_wd (kx_nx g c [11, 10]) w) rfl ?_
  refine kx_ret (v := some (.int ((x + N) * 2))) rfl ?_
  exact ⟨rfl, rfl⟩
set_option maxRecDepth 100000 in
theorem ev_run_6_12 {E : kv_V} {d : Nat} {g : kv_S} {w : kv_W} (hE1 : E 1001 = some (0, 7, kv_KA)) (hE3 : E 1003 = some (0, 28, kv_BO)) (N M : Int32) (c : Nat) (hs : kx_VS g c N M 6) (h40 : c + 1 ≤ 40) (x : Int32) (dp : Nat) (hd : dp + 0 ≤ 20) : kv_ev E (d + 2) 79 [.ref 53, .int 12, .int x, .int (nI dp)] (kv_wd g w) (some (.int (x - M))) (kv_wd (kx_nx g c [12]) w) := by
  refine kx_ev (d := d + 1) (by decide) (Nat.le_of_ble_eq_true rfl) ?_
  refine kx_st 0 (pc' := 0) (L' := [some (.ref 53), some (.int 12), some (.int x), some (.int (nI dp))]) (st' := []) (h' := kv_wd g w) rfl ?_
  refine kx_st 2 (pc' := 3) (L' := [some (.ref 53), some (.int 12), some (.int x), some (.int (nI dp))]) (st' := [.int 20, .int (nI dp)]) (h' := kv_wd g w) rfl ?_
  refine kx_bi (t := 8) rfl rfl (fun (h3 : nI dp ≤ 20) => ?_) (fun (h3 : ¬ (nI dp ≤ 20)) => ?_)
  · refine kx_st 2 (pc' := 10) (L' := [some (.ref 53), some (.int 12), some (.int x), some (.int (nI dp))]) (st' := [.int 12, .ref 53]) (h' := kv_wd g w) rfl ?_
    refine kx_call (z := 76) (as := [.ref 53, .int 12]) (rest := []) (v := none) (h1 := kv_wd (kx_nx g c [12]) w) rfl (ev_note (d := d + 0) c hs.1 (by omega) 12) ?_
    refine kx_st 0 (pc' := 13) (L' := [some (.ref 53), some (.int 12), some (.int x), some (.int (nI dp))]) (st' := []) (h' := kv_wd (kx_nx g c [12]) w) rfl ?_
    refine kx_st 6 (pc' := 135) (L' := [some (.ref 53), some (.int 12), some (.int x), some (.int (nI dp))]) (st' := [.int (x - ((kx_nx g c [12]) 53 3))]) (h' := kv_wd (kx_nx g c [12]) w) rfl ?_
    refine kx_ret (v := some (.int (x - ((kx_nx g c [12]) 53 3)))) rfl ?_
    exact ⟨by rw [show (kx_nx g c [12]) 53 3 = M from (kx_VS_nx [12] hs).2.2.1], rfl⟩
  · exact absurd (nI_le (a := dp) (b := 20) (by omega) (by omega)) h3
set_option maxRecDepth 100000 in
theorem ev_abv_6_3_2 {E : kv_V} {d : Nat} {g : kv_S} {w : kv_W} (hE1 : E 1001 = some (0, 7, kv_KA)) (hE3 : E 1003 = some (0, 28, kv_BO)) (N M : Int32) (c : Nat) (hs : kx_VS g c N M 6) (h40 : c + 1 ≤ 40) (x : Int32) (dp : Nat) (hd : dp + 1 ≤ 20) : kv_ev E (d + 3) 78 [.ref 53, .int 3, .int 2, .int x, .int (nI dp)] (kv_wd g w) (some (.int (x - M))) (kv_wd (kx_nx g c [12]) w) := by
  refine kx_ev (d := d + 2) (by decide) (Nat.le_of_ble_eq_true rfl) ?_
  refine kx_st 0 (pc' := 0) (L' := [some (.ref 53), some (.int 3), some (.int 2), some (.int x), some (.int (nI dp))]) (st' := []) (h' := kv_wd g w) rfl ?_
  refine kx_st 2 (pc' := 2) (L' := [some (.ref 53), some (.int 3), some (.int 2), some (.int x), some (.int (nI dp))]) (st' := [.int 3, .ref 53]) (h' := kv_wd g w) rfl ?_
  refine kx_call (z := 28) (as := [.int 3]) (rest := [.ref 53]) (v := some (.int 0)) (h1 := kv_wd g w) rfl (ev_above_3 (d := d + 1) hE1) ?_
  refine kx_st 0 (pc' := 5) (L' := [some (.ref 53), some (.int 3), some (.int 2), some (.int x), some (.int (nI dp))]) (st' := [.int 0, .ref 53]) (h' := kv_wd g w) rfl ?_
  refine kx_st 1 (pc' := 6) (L' := [some (.ref 53), some (.int 3), some (.int 2), some (.int x), some (.int (nI dp))]) (st' := [.int 2, .int 0, .ref 53]) (h' := kv_wd g w) rfl ?_
  refine kx_call (z := 75) (as := [.int 0, .int 2]) (rest := [.ref 53]) (v := some (.int 12)) (h1 := kv_wd g w) rfl (ev_bodyOf_0_2 (d := d + 0) hE1 hE3) ?_
  refine kx_st 0 (pc' := 9) (L' := [some (.ref 53), some (.int 3), some (.int 2), some (.int x), some (.int (nI dp))]) (st' := [.int 12, .ref 53]) (h' := kv_wd g w) rfl ?_
  refine kx_st 4 (pc' := 14) (L' := [some (.ref 53), some (.int 3), some (.int 2), some (.int x), some (.int (nI dp))]) (st' := [.int ((nI dp) + 1), .int x, .int 12, .ref 53]) (h' := kv_wd g w) rfl ?_
  refine kx_call (z := 79) (as := [.ref 53, .int 12, .int x, .int ((nI dp) + 1)]) (rest := []) (v := some (.int (x - M))) (h1 := kv_wd (kx_nx g c [12]) w) rfl (by rw [← nI_succ]; exact ev_run_6_12 (d := d + 0) hE1 hE3 N M c hs h40 x (dp + 1) (by omega)) ?_
  refine kx_st 0 (pc' := 17) (L' := [some (.ref 53), some (.int 3), some (.int 2), some (.int x), some (.int (nI dp))]) (st' := [.int (x - M)]) (h' := kv_wd (kx_nx g c [12]) w) rfl ?_
  refine kx_ret (v := some (.int (x - M))) rfl ?_
  exact ⟨rfl, rfl⟩
set_option maxRecDepth 100000 in
theorem ev_run_6_40 {E : kv_V} {d : Nat} {g : kv_S} {w : kv_W} (hE1 : E 1001 = some (0, 7, kv_KA)) (hE3 : E 1003 = some (0, 28, kv_BO)) (N M : Int32) (c : Nat) (hs : kx_VS g c N M 6) (h40 : c + 2 ≤ 40) (x : Int32) (dp : Nat) (hd : dp + 1 ≤ 20) : kv_ev E (d + 4) 79 [.ref 53, .int 40, .int x, .int (nI dp)] (kv_wd g w) (some (.int (-(x - M)))) (kv_wd (kx_nx g c [40, 12]) w) := by
  refine kx_ev (d := d + 3) (by decide) (Nat.le_of_ble_eq_true rfl) ?_
  refine kx_st 0 (pc' := 0) (L' := [some (.ref 53), some (.int 40), some (.int x), some (.int (nI dp))]) (st' := []) (h' := kv_wd g w) rfl ?_
  refine kx_st 2 (pc' := 3) (L' := [some (.ref 53), some (.int 40), some (.int x), some (.int (nI dp))]) (st' := [.int 20, .int (nI dp)]) (h' := kv_wd g w) rfl ?_
  refine kx_bi (t := 8) rfl rfl (fun (h3 : nI dp ≤ 20) => ?_) (fun (h3 : ¬ (nI dp ≤ 20)) => ?_)
  · refine kx_st 2 (pc' := 10) (L' := [some (.ref 53), some (.int 40), some (.int x), some (.int (nI dp))]) (st' := [.int 40, .ref 53]) (h' := kv_wd g w) rfl ?_
    refine kx_call (z := 76) (as := [.ref 53, .int 40]) (rest := []) (v := none) (h1 := kv_wd (kx_nx g c [40]) w) rfl (ev_note (d := d + 2) c hs.1 (by omega) 40) ?_
    refine kx_st 0 (pc' := 13) (L' := [some (.ref 53), some (.int 40), some (.int x), some (.int (nI dp))]) (st' := []) (h' := kv_wd (kx_nx g c [40]) w) rfl ?_
    refine kx_st 7 (pc' := 185) (L' := [some (.ref 53), some (.int 40), some (.int x), some (.int (nI dp))]) (st' := [.int (nI dp), .int x, .int 2, .int 3, .ref 53]) (h' := kv_wd (kx_nx g c [40]) w) rfl ?_
    refine kx_call (z := 78) (as := [.ref 53, .int 3, .int 2, .int x, .int (nI dp)]) (rest := []) (v := some (.int (x - M))) (h1 := kv_wd (kx_nx g c [40, 12]) w) rfl (by rw [← show kx_nx (kx_nx g c [40]) (c + 1) [12] = kx_nx g c [40, 12] from kx_nx_app g c [40] [12]]; exact ev_abv_6_3_2 (d := d + 0) (g := kx_nx g c [40]) hE1 hE3 N M (c + 1) (kx_VS_nx [40] hs) (by omega) x dp (by omega)) ?_
    refine kx_st 0 (pc' := 188) (L' := [some (.ref 53), some (.int 40), some (.int x), some (.int (nI dp))]) (st' := [.int (x - M)]) (h' := kv_wd (kx_nx g c [40, 12]) w) rfl ?_
    refine kx_st 1 (pc' := 189) (L' := [some (.ref 53), some (.int 40), some (.int x), some (.int (nI dp))]) (st' := [.int (-(x - M))]) (h' := kv_wd (kx_nx g c [40, 12]) w) rfl ?_
    refine kx_ret (v := some (.int (-(x - M)))) rfl ?_
    exact ⟨rfl, rfl⟩
  · exact absurd (nI_le (a := dp) (b := 20) (by omega) (by omega)) h3
set_option maxRecDepth 100000 in
theorem ev_abv_6_6_2 {E : kv_V} {d : Nat} {g : kv_S} {w : kv_W} (hE1 : E 1001 = some (0, 7, kv_KA)) (hE3 : E 1003 = some (0, 28, kv_BO)) (N M : Int32) (c : Nat) (hs : kx_VS g c N M 6) (h40 : c + 2 ≤ 40) (x : Int32) (dp : Nat) (hd : dp + 2 ≤ 20) : kv_ev E (d + 5) 78 [.ref 53, .int 6, .int 2, .int x, .int (nI dp)] (kv_wd g w) (some (.int (-(x - M)))) (kv_wd (kx_nx g c [40, 12]) w) := by
  refine kx_ev (d := d + 4) (by decide) (Nat.le_of_ble_eq_true rfl) ?_
  refine kx_st 0 (pc' := 0) (L' := [some (.ref 53), some (.int 6), some (.int 2), some (.int x), some (.int (nI dp))]) (st' := []) (h' := kv_wd g w) rfl ?_
  refine kx_st 2 (pc' := 2) (L' := [some (.ref 53), some (.int 6), some (.int 2), some (.int x), some (.int (nI dp))]) (st' := [.int 6, .ref 53]) (h' := kv_wd g w) rfl ?_
  refine kx_call (z := 28) (as := [.int 6]) (rest := [.ref 53]) (v := some (.int 3)) (h1 := kv_wd g w) rfl (ev_above_6 (d := d + 3) hE1) ?_
  refine kx_st 0 (pc' := 5) (L' := [some (.ref 53), some (.int 6), some (.int 2), some (.int x), some (.int (nI dp))]) (st' := [.int 3, .ref 53]) (h' := kv_wd g w) rfl ?_
  refine kx_st 1 (pc' := 6) (L' := [some (.ref 53), some (.int 6), some (.int 2), some (.int x), some (.int (nI dp))]) (st' := [.int 2, .int 3, .ref 53]) (h' := kv_wd g w) rfl ?_
  refine kx_call (z := 75) (as := [.int 3, .int 2]) (rest := [.ref 53]) (v := some (.int 40)) (h1 := kv_wd g w) rfl (ev_bodyOf_3_2 (d := d + 2) hE1 hE3) ?_
  refine kx_st 0 (pc' := 9) (L' := [some (.ref 53), some (.int 6), some (.int 2), some (.int x), some (.int (nI dp))]) (st' := [.int 40, .ref 53]) (h' := kv_wd g w) rfl ?_
  refine kx_st 4 (pc' := 14) (L' := [some (.ref 53), some (.int 6), some (.int 2), some (.int x), some (.int (nI dp))]) (st' := [.int ((nI dp) + 1), .int x, .int 40, .ref 53]) (h' := kv_wd g w) rfl ?_
  refine kx_call (z := 79) (as := [.ref 53, .int 40, .int x, .int ((nI dp) + 1)]) (rest := []) (v := some (.int (-(x - M)))) (h1 := kv_wd (kx_nx g c [40, 12]) w) rfl (by rw [← nI_succ]; exact ev_run_6_40 (d := d + 0) hE1 hE3 N M c hs h40 x (dp + 1) (by omega)) ?_
  refine kx_st 0 (pc' := 17) (L' := [some (.ref 53), some (.int 6), some (.int 2), some (.int x), some (.int (nI dp))]) (st' := [.int (-(x - M))]) (h' := kv_wd (kx_nx g c [40, 12]) w) rfl ?_
  refine kx_ret (v := some (.int (-(x - M)))) rfl ?_
  exact ⟨rfl, rfl⟩
set_option maxRecDepth 100000 in
theorem ev_run_6_70 {E : kv_V} {d : Nat} {g : kv_S} {w : kv_W} (hE1 : E 1001 = some (0, 7, kv_KA)) (hE3 : E 1003 = some (0, 28, kv_BO)) (N M : Int32) (c : Nat) (hs : kx_VS g c N M 6) (h40 : c + 3 ≤ 40) (x : Int32) (dp : Nat) (hd : dp + 2 ≤ 20) : kv_ev E (d + 6) 79 [.ref 53, .int 70, .int x, .int (nI dp)] (kv_wd g w) (some (.int ((-(x - M)) ^^^ N))) (kv_wd (kx_nx g c [70, 40, 12]) w) := by
  refine kx_ev (d := d + 5) (by decide) (Nat.le_of_ble_eq_true rfl) ?_
  refine kx_st 0 (pc' := 0) (L' := [some (.ref 53), some (.int 70), some (.int x), some (.int (nI dp))]) (st' := []) (h' := kv_wd g w) rfl ?_
  refine kx_st 2 (pc' := 3) (L' := [some (.ref 53), some (.int 70), some (.int x), some (.int (nI dp))]) (st' := [.int 20, .int (nI dp)]) (h' := kv_wd g w) rfl ?_
  refine kx_bi (t := 8) rfl rfl (fun (h3 : nI dp ≤ 20) => ?_) (fun (h3 : ¬ (nI dp ≤ 20)) => ?_)
  · refine kx_st 2 (pc' := 10) (L' := [some (.ref 53), some (.int 70), some (.int x), some (.int (nI dp))]) (st' := [.int 70, .ref 53]) (h' := kv_wd g w) rfl ?_
    refine kx_call (z := 76) (as := [.ref 53, .int 70]) (rest := []) (v := none) (h1 := kv_wd (kx_nx g c [70]) w) rfl (ev_note (d := d + 4) c hs.1 (by omega) 70) ?_
    refine kx_st 0 (pc' := 13) (L' := [some (.ref 53), some (.int 70), some (.int x), some (.int (nI dp))]) (st' := []) (h' := kv_wd (kx_nx g c [70]) w) rfl ?_
    refine kx_st 7 (pc' := 224) (L' := [some (.ref 53), some (.int 70), some (.int x), some (.int (nI dp))]) (st' := [.int (nI dp), .int x, .int 2, .int 6, .ref 53]) (h' := kv_wd (kx_nx g c [70]) w) rfl ?_
    refine kx_call (z := 78) (as := [.ref 53, .int 6, .int 2, .int x, .int (nI dp)]) (rest := []) (v := some (.int (-(x - M)))) (h1 := kv_wd (kx_nx g c [70, 40, 12]) w) rfl (by rw [← show kx_nx (kx_nx g c [70]) (c + 1) [40, 12] = kx_nx g c [70, 40, 12] from kx_nx_app g c [70] [40, 12]]; exact ev_abv_6_6_2 (d := d + 0) (g := kx_nx g c [70]) hE1 hE3 N M (c + 1) (kx_VS_nx [70] hs) (by omega) x dp (by omega)) ?_
    refine kx_st 0 (pc' := 227) (L' := [some (.ref 53), some (.int 70), some (.int x), some (.int (nI dp))]) (st' := [.int (-(x - M))]) (h' := kv_wd (kx_nx g c [70, 40, 12]) w) rfl ?_
    refine kx_st 3 (pc' := 232) (L' := [some (.ref 53), some (.int 70), some (.int x), some (.int (nI dp))]) (st' := [.int ((-(x - M)) ^^^ ((kx_nx g c [70, 40, 12]) 53 2))]) (h' := kv_wd (kx_nx g c [70, 40, 12]) w) rfl ?_
    refine kx_ret (v := some (.int ((-(x - M)) ^^^ ((kx_nx g c [70, 40, 12]) 53 2)))) rfl ?_
    exact ⟨by rw [show (kx_nx g c [70, 40, 12]) 53 2 = N from (kx_VS_nx [70, 40, 12] hs).2.1], rfl⟩
  · exact absurd (nI_le (a := dp) (b := 20) (by omega) (by omega)) h3
set_option maxRecDepth 100000 in
theorem ev_own_6_2 {E : kv_V} {d : Nat} {g : kv_S} {w : kv_W} (hE1 : E 1001 = some (0, 7, kv_KA)) (hE3 : E 1003 = some (0, 28, kv_BO)) (N M : Int32) (c : Nat) (hs : kx_VS g c N M 6) (h40 : c + 3 ≤ 40) (x : Int32) (dp : Nat) (hd : dp + 3 ≤ 20) : kv_ev E (d + 7) 77 [.ref 53, .int 2, .int x, .int (nI dp)] (kv_wd g w) (some (.int ((-(x - M)) ^^^ N))) (kv_wd (kx_nx g c [70, 40, 12]) w) := by
  refine kx_ev (d := d + 6) (by decide) (Nat.le_of_ble_eq_true rfl) ?_
  refine kx_st 0 (pc' := 0) (L' := [some (.ref 53), some (.int 2), some (.int x), some (.int (nI dp))]) (st' := []) (h' := kv_wd g w) rfl ?_
  refine kx_st 4 (pc' := 6) (L' := [some (.ref 53), some (.int 2), some (.int x), some (.int (nI dp))]) (st' := [.int 2, .int (g 53 4), .ref 53]) (h' := kv_wd g w) rfl ?_
  refine kx_call (z := 75) (as := [.int (g 53 4), .int 2]) (rest := [.ref 53]) (v := some (.int 70)) (h1 := kv_wd g w) rfl (by rw [show g 53 4 = 6 from hs.2.2.2]; exact ev_bodyOf_6_2 (d := d + 4) hE1 hE3) ?_
  refine kx_st 0 (pc' := 9) (L' := [some (.ref 53), some (.int 2), some (.int x), some (.int (nI dp))]) (st' := [.int 70, .ref 53]) (h' := kv_wd g w) rfl ?_
  refine kx_st 4 (pc' := 13) (L' := [some (.ref 53), some (.int 2), some (.int x), some (.int (nI dp))]) (st' := [.int ((nI dp) + 1), .int x, .int 70, .ref 53]) (h' := kv_wd g w) rfl ?_
  refine kx_call (z := 79) (as := [.ref 53, .int 70, .int x, .int ((nI dp) + 1)]) (rest := []) (v := some (.int ((-(x - M)) ^^^ N))) (h1 := kv_wd (kx_nx g c [70, 40, 12]) w) rfl (by rw [← nI_succ]; exact ev_run_6_70 (d := d + 0) hE1 hE3 N M c hs h40 x (dp + 1) (by omega)) ?_
  refine kx_st 0 (pc' := 16) (L' := [some (.ref 53), some (.int 2), some (.int x), some (.int (nI dp))]) (st' := [.int ((-(x - M)) ^^^ N)]) (h' := kv_wd (kx_nx g c [70, 40, 12]) w) rfl ?_
  refine kx_ret (v := some (.int ((-(x - M)) ^^^ N))) rfl ?_
  exact ⟨rfl, rfl⟩
set_option maxRecDepth 100000 in
theorem ev_run_6_13 {E : kv_V} {d : Nat} {g : kv_S} {w : kv_W} (hE1 : E 1001 = some (0, 7, kv_KA)) (hE3 : E 1003 = some (0, 28, kv_BO)) (N M : Int32) (c : Nat) (hs : kx_VS g c N M 6) (h40 : c + 6 ≤ 40) (x : Int32) (dp : Nat) (hd : dp + 3 ≤ 20) : kv_ev E (d + 8) 79 [.ref 53, .int 13, .int x, .int (nI dp)] (kv_wd g w) (some (.int (((x + N) * 2) ^^^ ((-(x - M)) ^^^ N)))) (kv_wd (kx_nx g c [13, 11, 10, 70, 40, 12]) w) := by
  refine kx_ev (d := d + 7) (by decide) (Nat.le_of_ble_eq_true rfl) ?_
  refine kx_st 0 (pc' := 0) (L' := [some (.ref 53), some (.int 13), some (.int x), some (.int (nI dp))]) (st' := []) (h' := kv_wd g w) rfl ?_
  refine kx_st 2 (pc' := 3) (L' := [some (.ref 53), some (.int 13), some (.int x), some (.int (nI dp))]) (st' := [.int 20, .int (nI dp)]) (h' := kv_wd g w) rfl ?_
  refine kx_bi (t := 8) rfl rfl (fun (h3 : nI dp ≤ 20) => ?_) (fun (h3 : ¬ (nI dp ≤ 20)) => ?_)
  · refine kx_st 2 (pc' := 10) (L' := [some (.ref 53), some (.int 13), some (.int x), some (.int (nI dp))]) (st' := [.int 13, .ref 53]) (h' := kv_wd g w) rfl ?_
    refine kx_call (z := 76) (as := [.ref 53, .int 13]) (rest := []) (v := none) (h1 := kv_wd (kx_nx g c [13]) w) rfl (ev_note (d := d + 6) c hs.1 (by omega) 13) ?_
    refine kx_st 0 (pc' := 13) (L' := [some (.ref 53), some (.int 13), some (.int x), some (.int (nI dp))]) (st' := []) (h' := kv_wd (kx_nx g c [13]) w) rfl ?_
    refine kx_st 6 (pc' := 140) (L' := [some (.ref 53), some (.int 13), some (.int x), some (.int (nI dp))]) (st' := [.int (nI dp), .int x, .int 1, .ref 53]) (h' := kv_wd (kx_nx g c [13]) w) rfl ?_
    refine kx_call (z := 77) (as := [.ref 53, .int 1, .int x, .int (nI dp)]) (rest := []) (v := some (.int ((x + N) * 2))) (h1 := kv_wd (kx_nx g c [13, 11, 10]) w) rfl (by rw [← show kx_nx (kx_nx g c [13]) (c + 1) [11, 10] = kx_nx g c [13, 11, 10] from kx_nx_app g c [13] [11, 10]]; exact ev_own_6_1 (d := d + 2) (g := kx_nx g c [13]) hE1 hE3 N M (c + 1) (kx_VS_nx [13] hs) (by omega) x dp (by omega)) ?_
    refine kx_st 0 (pc' := 143) (L' := [some (.ref 53), some (.int 13), some (.int x), some (.int (nI dp))]) (st' := [.int ((x + N) * 2)]) (h' := kv_wd (kx_nx g c [13, 11, 10]) w) rfl ?_
    refine kx_st 4 (pc' := 147) (L' := [some (.ref 53), some (.int 13), some (.int x), some (.int (nI dp))]) (st' := [.int (nI dp), .int x, .int 2, .ref 53, .int ((x + N) * 2)]) (h' := kv_wd (kx_nx g c [13, 11, 10]) w) rfl ?_
    refine kx_call (z := 77) (as := [.ref 53, .int 2, .int x, .int (nI dp)]) (rest := [.int ((x + N) * 2)]) (v := some (.int ((-(x - M)) ^^^ N))) (h1 := kv_wd (kx_nx g c [13, 11, 10, 70, 40, 12]) w) rfl (by rw [← show kx_nx (kx_nx g c [13, 11, 10]) (c + 3) [70, 40, 12] = kx_nx g c [13, 11, 10, 70, 40, 12] from kx_nx_app g c [13, 11, 10] [70, 40, 12]]; exact ev_own_6_2 (d := d + 0) (g := kx_nx g c [13, 11, 10]) hE1 hE3 N M (c + 3) (kx_VS_nx [13, 11, 10] hs) (by omega) x dp (by omega)) ?_
    refine kx_st 0 (pc' := 150) (L' := [some (.ref 53), some (.int 13), some (.int x), some (.int (nI dp))]) (st' := [.int ((-(x - M)) ^^^ N), .int ((x + N) * 2)]) (h' := kv_wd (kx_nx g c [13, 11, 10, 70, 40, 12]) w) rfl ?_
    refine kx_st 1 (pc' := 151) (L' := [some (.ref 53), some (.int 13), some (.int x), some (.int (nI dp))]) (st' := [.int (((x + N) * 2) ^^^ ((-(x - M)) ^^^ N))]) (h' := kv_wd (kx_nx g c [13, 11, 10, 70, 40, 12]) w) rfl ?_
    refine kx_ret (v := some (.int (((x + N) * 2) ^^^ ((-(x - M)) ^^^ N)))) rfl ?_
    exact ⟨rfl, rfl⟩
  · exact absurd (nI_le (a := dp) (b := 20) (by omega) (by omega)) h3
set_option maxRecDepth 100000 in
theorem ev_abv_6_6_3 {E : kv_V} {d : Nat} {g : kv_S} {w : kv_W} (hE1 : E 1001 = some (0, 7, kv_KA)) (hE3 : E 1003 = some (0, 28, kv_BO)) (N M : Int32) (c : Nat) (hs : kx_VS g c N M 6) (h40 : c + 6 ≤ 40) (x : Int32) (dp : Nat) (hd : dp + 4 ≤ 20) : kv_ev E (d + 9) 78 [.ref 53, .int 6, .int 3, .int x, .int (nI dp)] (kv_wd g w) (some (.int (((x + N) * 2) ^^^ ((-(x - M)) ^^^ N)))) (kv_wd (kx_nx g c [13, 11, 10, 70, 40, 12]) w) := by
  refine kx_ev (d := d + 8) (by decide) (Nat.le_of_ble_eq_true rfl) ?_
  refine kx_st 0 (pc' := 0) (L' := [some (.ref 53), some (.int 6), some (.int 3), some (.int x), some (.int (nI dp))]) (st' := []) (h' := kv_wd g w) rfl ?_
  refine kx_st 2 (pc' := 2) (L' := [some (.ref 53), some (.int 6), some (.int 3), some (.int x), some (.int (nI dp))]) (st' := [.int 6, .ref 53]) (h' := kv_wd g w) rfl ?_
  refine kx_call (z := 28) (as := [.int 6]) (rest := [.ref 53]) (v := some (.int 3)) (h1 := kv_wd g w) rfl (ev_above_6 (d := d + 7) hE1) ?_
  refine kx_st 0 (pc' := 5) (L' := [some (.ref 53), some (.int 6), some (.int 3), some (.int x), some (.int (nI dp))]) (st' := [.int 3, .ref 53]) (h' := kv_wd g w) rfl ?_
  refine kx_st 1 (pc' := 6) (L' := [some (.ref 53), some (.int 6), some (.int 3), some (.int x), some (.int (nI dp))]) (st' := [.int 3, .int 3, .ref 53]) (h' := kv_wd g w) rfl ?_
  refine kx_call (z := 75) (as := [.int 3, .int 3]) (rest := [.ref 53]) (v := some (.int 13)) (h1 := kv_wd g w) rfl (ev_bodyOf_3_3 (d := d + 6) hE1 hE3) ?_
  refine kx_st 0 (pc' := 9) (L' := [some (.ref 53), some (.int 6), some (.int 3), some (.int x), some (.int (nI dp))]) (st' := [.int 13, .ref 53]) (h' := kv_wd g w) rfl ?_
  refine kx_st 4 (pc' := 14) (L' := [some (.ref 53), some (.int 6), some (.int 3), some (.int x), some (.int (nI dp))]) (st' := [.int ((nI dp) + 1), .int x, .int 13, .ref 53]) (h' := kv_wd g w) rfl ?_
  refine kx_call (z := 79) (as := [.ref 53, .int 13, .int x, .int ((nI dp) + 1)]) (rest := []) (v := some (.int (((x + N) * 2) ^^^ ((-(x - M)) ^^^ N)))) (h1 := kv_wd (kx_nx g c [13, 11, 10, 70, 40, 12]) w) rfl (by rw [← nI_succ]; exact ev_run_6_13 (d := d + 0) hE1 hE3 N M c hs h40 x (dp + 1) (by omega)) ?_
  refine kx_st 0 (pc' := 17) (L' := [some (.ref 53), some (.int 6), some (.int 3), some (.int x), some (.int (nI dp))]) (st' := [.int (((x + N) * 2) ^^^ ((-(x - M)) ^^^ N))]) (h' := kv_wd (kx_nx g c [13, 11, 10, 70, 40, 12]) w) rfl ?_
  refine kx_ret (v := some (.int (((x + N) * 2) ^^^ ((-(x - M)) ^^^ N)))) rfl ?_
  exact ⟨rfl, rfl⟩
set_option maxRecDepth 100000 in
theorem ev_run_6_71 {E : kv_V} {d : Nat} {g : kv_S} {w : kv_W} (hE1 : E 1001 = some (0, 7, kv_KA)) (hE3 : E 1003 = some (0, 28, kv_BO)) (N M : Int32) (c : Nat) (hs : kx_VS g c N M 6) (h40 : c + 9 ≤ 40) (x : Int32) (dp : Nat) (hd : dp + 4 ≤ 20) : kv_ev E (d + 10) 79 [.ref 53, .int 71, .int x, .int (nI dp)] (kv_wd g w) (some (.int (((x + N) * 2) - (((x + N) * 2) ^^^ ((-(x - M)) ^^^ N))))) (kv_wd (kx_nx g c [71, 11, 10, 13, 11, 10, 70, 40, 12]) w) := by
  refine kx_ev (d := d + 9) (by decide) (Nat.le_of_ble_eq_true rfl) ?_
  refine kx_st 0 (pc' := 0) (L' := [some (.ref 53), some (.int 71), some (.int x), some (.int (nI dp))]) (st' := []) (h' := kv_wd g w) rfl ?_
  refine kx_st 2 (pc' := 3) (L' := [some (.ref 53), some (.int 71), some (.int x), some (.int (nI dp))]) (st' := [.int 20, .int (nI dp)]) (h' := kv_wd g w) rfl ?_
  refine kx_bi (t := 8) rfl rfl (fun (h3 : nI dp ≤ 20) => ?_) (fun (h3 : ¬ (nI dp ≤ 20)) => ?_)
  · refine kx_st 2 (pc' := 10) (L' := [some (.ref 53), some (.int 71), some (.int x), some (.int (nI dp))]) (st' := [.int 71, .ref 53]) (h' := kv_wd g w) rfl ?_
    refine kx_call (z := 76) (as := [.ref 53, .int 71]) (rest := []) (v := none) (h1 := kv_wd (kx_nx g c [71]) w) rfl (ev_note (d := d + 8) c hs.1 (by omega) 71) ?_
    refine kx_st 0 (pc' := 13) (L' := [some (.ref 53), some (.int 71), some (.int x), some (.int (nI dp))]) (st' := []) (h' := kv_wd (kx_nx g c [71]) w) rfl ?_
    refine kx_st 6 (pc' := 237) (L' := [some (.ref 53), some (.int 71), some (.int x), some (.int (nI dp))]) (st' := [.int (nI dp), .int x, .int 1, .ref 53]) (h' := kv_wd (kx_nx g c [71]) w) rfl ?_
    refine kx_call (z := 77) (as := [.ref 53, .int 1, .int x, .int (nI dp)]) (rest := []) (v := some (.int ((x + N) * 2))) (h1 := kv_wd (kx_nx g c [71, 11, 10]) w) rfl (by rw [← show kx_nx (kx_nx g c [71]) (c + 1) [11, 10] = kx_nx g c [71, 11, 10] from kx_nx_app g c [71] [11, 10]]; exact ev_own_6_1 (d := d + 4) (g := kx_nx g c [71]) hE1 hE3 N M (c + 1) (kx_VS_nx [71] hs) (by omega) x dp (by omega)) ?_
    refine kx_st 0 (pc' := 240) (L' := [some (.ref 53), some (.int 71), some (.int x), some (.int (nI dp))]) (st' := [.int ((x + N) * 2)]) (h' := kv_wd (kx_nx g c [71, 11, 10]) w) rfl ?_
    refine kx_st 5 (pc' := 246) (L' := [some (.ref 53), some (.int 71), some (.int x), some (.int (nI dp))]) (st' := [.int (nI dp), .int x, .int 3, .int 6, .ref 53, .int ((x + N) * 2)]) (h' := kv_wd (kx_nx g c [71, 11, 10]) w) rfl ?_
    refine kx_call (z := 78) (as := [.ref 53, .int 6, .int 3, .int x, .int (nI dp)]) (rest := [.int ((x + N) * 2)]) (v := some (.int (((x + N) * 2) ^^^ ((-(x - M)) ^^^ N)))) (h1 := kv_wd (kx_nx g c [71, 11, 10, 13, 11, 10, 70, 40, 12]) w) rfl (by rw [← show kx_nx (kx_nx g c [71, 11, 10]) (c + 3) [13, 11, 10, 70, 40, 12] = kx_nx g c [71, 11, 10, 13, 11, 10, 70, 40, 12] from kx_nx_app g c [71, 11, 10] [13, 11, 10, 70, 40, 12]]; exact ev_abv_6_6_3 (d := d + 0) (g := kx_nx g c [71, 11, 10]) hE1 hE3 N M (c + 3) (kx_VS_nx [71, 11, 10] hs) (by omega) x dp (by omega)) ?_
    refine kx_st 0 (pc' := 249) (L' := [some (.ref 53), some (.int 71), some (.int x), some (.int (nI dp))]) (st' := [.int (((x + N) * 2) ^^^ ((-(x - M)) ^^^ N)), .int ((x + N) * 2)]) (h' := kv_wd (kx_nx g c [71, 11, 10, 13, 11, 10, 70, 40, 12]) w) rfl ?_
    refine kx_st 1 (pc' := 250) (L' := [some (.ref 53), some (.int 71), some (.int x), some (.int (nI dp))]) (st' := [.int (((x + N) * 2) - (((x + N) * 2) ^^^ ((-(x - M)) ^^^ N)))]) (h' := kv_wd (kx_nx g c [71, 11, 10, 13, 11, 10, 70, 40, 12]) w) rfl ?_
    refine kx_ret (v := some (.int (((x + N) * 2) - (((x + N) * 2) ^^^ ((-(x - M)) ^^^ N))))) rfl ?_
    exact ⟨rfl, rfl⟩
  · exact absurd (nI_le (a := dp) (b := 20) (by omega) (by omega)) h3
set_option maxRecDepth 100000 in
theorem ev_own_6_3 {E : kv_V} {d : Nat} {g : kv_S} {w : kv_W} (hE1 : E 1001 = some (0, 7, kv_KA)) (hE3 : E 1003 = some (0, 28, kv_BO)) (N M : Int32) (c : Nat) (hs : kx_VS g c N M 6) (h40 : c + 9 ≤ 40) (x : Int32) (dp : Nat) (hd : dp + 5 ≤ 20) : kv_ev E (d + 11) 77 [.ref 53, .int 3, .int x, .int (nI dp)] (kv_wd g w) (some (.int (((x + N) * 2) - (((x + N) * 2) ^^^ ((-(x - M)) ^^^ N))))) (kv_wd (kx_nx g c [71, 11, 10, 13, 11, 10, 70, 40, 12]) w) := by
  refine kx_ev (d := d + 10) (by decide) (Nat.le_of_ble_eq_true rfl) ?_
  refine kx_st 0 (pc' := 0) (L' := [some (.ref 53), some (.int 3), some (.int x), some (.int (nI dp))]) (st' := []) (h' := kv_wd g w) rfl ?_
  refine kx_st 4 (pc' := 6) (L' := [some (.ref 53), some (.int 3), some (.int x), some (.int (nI dp))]) (st' := [.int 3, .int (g 53 4), .ref 53]) (h' := kv_wd g w) rfl ?_
  refine kx_call (z := 75) (as := [.int (g 53 4), .int 3]) (rest := [.ref 53]) (v := some (.int 71)) (h1 := kv_wd g w) rfl (by rw [show g 53 4 = 6 from hs.2.2.2]; exact ev_bodyOf_6_3 (d := d + 8) hE1 hE3) ?_
  refine kx_st 0 (pc' := 9) (L' := [some (.ref 53), some (.int 3), some (.int x), some (.int (nI dp))]) (st' := [.int 71, .ref 53]) (h' := kv_wd g w) rfl ?_
  refine kx_st 4 (pc' := 13) (L' := [some (.ref 53), some (.int 3), some (.int x), some (.int (nI dp))]) (st' := [.int ((nI dp) + 1), .int x, .int 71, .ref 53]) (h' := kv_wd g w) rfl ?_
  refine kx_call (z := 79) (as := [.ref 53, .int 71, .int x, .int ((nI dp) + 1)]) (rest := []) (v := some (.int (((x + N) * 2) - (((x + N) * 2) ^^^ ((-(x - M)) ^^^ N))))) (h1 := kv_wd (kx_nx g c [71, 11, 10, 13, 11, 10, 70, 40, 12]) w) rfl (by rw [← nI_succ]; exact ev_run_6_71 (d := d + 0) hE1 hE3 N M c hs h40 x (dp + 1) (by omega)) ?_
  refine kx_st 0 (pc' := 16) (L' := [some (.ref 53), some (.int 3), some (.int x), some (.int (nI dp))]) (st' := [.int (((x + N) * 2) - (((x + N) * 2) ^^^ ((-(x - M)) ^^^ N)))]) (h' := kv_wd (kx_nx g c [71, 11, 10, 13, 11, 10, 70, 40, 12]) w) rfl ?_
  refine kx_ret (v := some (.int (((x + N) * 2) - (((x + N) * 2) ^^^ ((-(x - M)) ^^^ N))))) rfl ?_
  exact ⟨rfl, rfl⟩
