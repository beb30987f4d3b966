/-! PAIRS: as, move -/
set_option maxRecDepth 100000 in
theorem ev_above_0 {E : kv_V} {d : Nat} {g : kv_S} {w : kv_W} (hE : E 1001 = some (0, 7, kv_KA)) : kv_ev E (d + 1) 28 [.int 0] (kv_wd g w) (some (.int (-1))) (kv_wd g w) := by
  refine kx_ev (d := d + 0) (by decide) (Nat.le_of_ble_eq_true rfl) ?_
  refine kx_st 0 (pc' := 0) (L' := [some (.int 0)]) (st' := []) (h' := kv_wd g w) rfl ?_
  refine kx_st 1 (pc' := 1) (L' := [some (.int 0)]) (st' := [.int 0]) (h' := kv_wd g w) rfl ?_
  refine kx_st 1 (pc' := 4) (L' := [some (.int 0)]) (st' := []) (h' := kv_wd g w) rfl ?_
  refine kx_st 2 (pc' := 8) (L' := [some (.int 0)]) (st' := [.ref 1001, .int 0]) (h' := kv_wd g w) rfl ?_
  refine kx_aE (n := 7) rfl hE (by decide) ?_
  refine kx_st 1 (pc' := 16) (L' := [some (.int 0)]) (st' := []) (h' := kv_wd g w) rfl ?_
  refine kx_st 2 (pc' := 20) (L' := [some (.int 0)]) (st' := [.int 0, .ref 1001]) (h' := kv_wd g w) rfl ?_
  refine kx_iE (k := 0) (f := kv_KA) rfl hE (by decide) rfl (by decide) (by omega) ?_
  refine kx_ret (v := some (.int (kv_KA 0))) rfl ?_
  exact ⟨rfl, rfl⟩
set_option maxRecDepth 100000 in
theorem ev_mabove_0 {E : kv_V} {d : Nat} {g : kv_S} {w : kv_W}  : kv_ev E (d + 1) 153 [.int 0] (kv_wd g w) (some (.int (-1))) (kv_wd g w) := by
  refine kx_ev (d := d + 0) (by decide) (Nat.le_of_ble_eq_true rfl) ?_
  refine kx_st 0 (pc' := 0) (L' := [some (.int 0)]) (st' := []) (h' := kv_wd g w) rfl ?_
  refine kx_st 1 (pc' := 1) (L' := [some (.int 0)]) (st' := [.int 0]) (h' := kv_wd g w) rfl ?_
  refine kx_st 1 (pc' := 4) (L' := [some (.int 0)]) (st' := []) (h' := kv_wd g w) rfl ?_
  refine kx_st 2 (pc' := 20) (L' := [some (.int 0)]) (st' := [.int (-1)]) (h' := kv_wd g w) rfl ?_
  refine kx_ret (v := some (.int (-1))) rfl ?_
  exact ⟨rfl, rfl⟩
set_option maxRecDepth 100000 in
theorem ev_above_1 {E : kv_V} {d : Nat} {g : kv_S} {w : kv_W} (hE : E 1001 = some (0, 7, kv_KA)) : kv_ev E (d + 1) 28 [.int 1] (kv_wd g w) (some (.int 0)) (kv_wd g w) := by
  refine kx_ev (d := d + 0) (by decide) (Nat.le_of_ble_eq_true rfl) ?_
  refine kx_st 0 (pc' := 0) (L' := [some (.int 1)]) (st' := []) (h' := kv_wd g w) rfl ?_
  refine kx_st 1 (pc' := 1) (L' := [some (.int 1)]) (st' := [.int 1]) (h' := kv_wd g w) rfl ?_
  refine kx_st 1 (pc' := 4) (L' := [some (.int 1)]) (st' := []) (h' := kv_wd g w) rfl ?_
  refine kx_st 2 (pc' := 8) (L' := [some (.int 1)]) (st' := [.ref 1001, .int 1]) (h' := kv_wd g w) rfl ?_
  refine kx_aE (n := 7) rfl hE (by decide) ?_
  refine kx_st 1 (pc' := 16) (L' := [some (.int 1)]) (st' := []) (h' := kv_wd g w) rfl ?_
  refine kx_st 2 (pc' := 20) (L' := [some (.int 1)]) (st' := [.int 1, .ref 1001]) (h' := kv_wd g w) rfl ?_
  refine kx_iE (k := 1) (f := kv_KA) rfl hE (by decide) rfl (by decide) (by omega) ?_
  refine kx_ret (v := some (.int (kv_KA 1))) rfl ?_
  exact ⟨rfl, rfl⟩
set_option maxRecDepth 100000 in
theorem ev_mabove_1 {E : kv_V} {d : Nat} {g : kv_S} {w : kv_W}  : kv_ev E (d + 1) 153 [.int 1] (kv_wd g w) (some (.int 0)) (kv_wd g w) := by
  refine kx_ev (d := d + 0) (by decide) (Nat.le_of_ble_eq_true rfl) ?_
  refine kx_st 0 (pc' := 0) (L' := [some (.int 1)]) (st' := []) (h' := kv_wd g w) rfl ?_
  refine kx_st 1 (pc' := 1) (L' := [some (.int 1)]) (st' := [.int 1]) (h' := kv_wd g w) rfl ?_
  refine kx_st 1 (pc' := 8) (L' := [some (.int 1)]) (st' := []) (h' := kv_wd g w) rfl ?_
  refine kx_st 2 (pc' := 10) (L' := [some (.int 1)]) (st' := [.int 3, .int 1]) (h' := kv_wd g w) rfl ?_
  refine kx_st 1 (pc' := 19) (L' := [some (.int 1)]) (st' := []) (h' := kv_wd g w) rfl ?_
  refine kx_st 1 (pc' := 20) (L' := [some (.int 1)]) (st' := [.int 0]) (h' := kv_wd g w) rfl ?_
  refine kx_ret (v := some (.int 0)) rfl ?_
  exact ⟨rfl, rfl⟩
set_option maxRecDepth 100000 in
theorem ev_above_2 {E : kv_V} {d : Nat} {g : kv_S} {w : kv_W} (hE : E 1001 = some (0, 7, kv_KA)) : kv_ev E (d + 1) 28 [.int 2] (kv_wd g w) (some (.int 0)) (kv_wd g w) := by
  refine kx_ev (d := d + 0) (by decide) (Nat.le_of_ble_eq_true rfl) ?_
  refine kx_st 0 (pc' := 0) (L' := [some (.int 2)]) (st' := []) (h' := kv_wd g w) rfl ?_
  refine kx_st 1 (pc' := 1) (L' := [some (.int 2)]) (st' := [.int 2]) (h' := kv_wd g w) rfl ?_
  refine kx_st 1 (pc' := 4) (L' := [some (.int 2)]) (st' := []) (h' := kv_wd g w) rfl ?_
  refine kx_st 2 (pc' := 8) (L' := [some (.int 2)]) (st' := [.ref 1001, .int 2]) (h' := kv_wd g w) rfl ?_
  refine kx_aE (n := 7) rfl hE (by decide) ?_
  refine kx_st 1 (pc' := 16) (L' := [some (.int 2)]) (st' := []) (h' := kv_wd g w) rfl ?_
  refine kx_st 2 (pc' := 20) (L' := [some (.int 2)]) (st' := [.int 2, .ref 1001]) (h' := kv_wd g w) rfl ?_
  refine kx_iE (k := 2) (f := kv_KA) rfl hE (by decide) rfl (by decide) (by omega) ?_
  refine kx_ret (v := some (.int (kv_KA 2))) rfl ?_
  exact ⟨rfl, rfl⟩
set_option maxRecDepth 100000 in
theorem ev_mabove_2 {E : kv_V} {d : Nat} {g : kv_S} {w : kv_W}  : kv_ev E (d + 1) 153 [.int 2] (kv_wd g w) (some (.int 0)) (kv_wd g w) := by
  refine kx_ev (d := d + 0) (by decide) (Nat.le_of_ble_eq_true rfl) ?_
  refine kx_st 0 (pc' := 0) (L' := [some (.int 2)]) (st' := []) (h' := kv_wd g w) rfl ?_
  refine kx_st 1 (pc' := 1) (L' := [some (.int 2)]) (st' := [.int 2]) (h' := kv_wd g w) rfl ?_
  refine kx_st 1 (pc' := 8) (L' := [some (.int 2)]) (st' := []) (h' := kv_wd g w) rfl ?_
  refine kx_st 2 (pc' := 10) (L' := [some (.int 2)]) (st' := [.int 3, .int 2]) (h' := kv_wd g w) rfl ?_
  refine kx_st 1 (pc' := 19) (L' := [some (.int 2)]) (st' := []) (h' := kv_wd g w) rfl ?_
  refine kx_st 1 (pc' := 20) (L' := [some (.int 2)]) (st' := [.int 0]) (h' := kv_wd g w) rfl ?_
  refine kx_ret (v := some (.int 0)) rfl ?_
  exact ⟨rfl, rfl⟩
set_option maxRecDepth 100000 in
theorem ev_above_3 {E : kv_V} {d : Nat} {g : kv_S} {w : kv_W} (hE : E 1001 = some (0, 7, kv_KA)) : kv_ev E (d + 1) 28 [.int 3] (kv_wd g w) (some (.int 0)) (kv_wd g w) := by
  refine kx_ev (d := d + 0) (by decide) (Nat.le_of_ble_eq_true rfl) ?_
  refine kx_st 0 (pc' := 0) (L' := [some (.int 3)]) (st' := []) (h' := kv_wd g w) rfl ?_
  refine kx_st 1 (pc' := 1) (L' := [some (.int 3)]) (st' := [.int 3]) (h' := kv_wd g w) rfl ?_
  refine kx_st 1 (pc' := 4) (L' := [some (.int 3)]) (st' := []) (h' := kv_wd g w) rfl ?_
  refine kx_st 2 (pc' := 8) (L' := [some (.int 3)]) (st' := [.ref 1001, .int 3]) (h' := kv_wd g w) rfl ?_
  refine kx_aE (n := 7) rfl hE (by decide) ?_
  refine kx_st 1 (pc' := 16) (L' := [some (.int 3)]) (st' := []) (h' := kv_wd g w) rfl ?_
  refine kx_st 2 (pc' := 20) (L' := [some (.int 3)]) (st' := [.int 3, .ref 1001]) (h' := kv_wd g w) rfl ?_
  refine kx_iE (k := 3) (f := kv_KA) rfl hE (by decide) rfl (by decide) (by omega) ?_
  refine kx_ret (v := some (.int (kv_KA 3))) rfl ?_
  exact ⟨rfl, rfl⟩
set_option maxRecDepth 100000 in
theorem ev_mabove_3 {E : kv_V} {d : Nat} {g : kv_S} {w : kv_W}  : kv_ev E (d + 1) 153 [.int 3] (kv_wd g w) (some (.int 0)) (kv_wd g w) := by
  refine kx_ev (d := d + 0) (by decide) (Nat.le_of_ble_eq_true rfl) ?_
  refine kx_st 0 (pc' := 0) (L' := [some (.int 3)]) (st' := []) (h' := kv_wd g w) rfl ?_
  refine kx_st 1 (pc' := 1) (L' := [some (.int 3)]) (st' := [.int 3]) (h' := kv_wd g w) rfl ?_
  refine kx_st 1 (pc' := 8) (L' := [some (.int 3)]) (st' := []) (h' := kv_wd g w) rfl ?_
  refine kx_st 2 (pc' := 10) (L' := [some (.int 3)]) (st' := [.int 3, .int 3]) (h' := kv_wd g w) rfl ?_
  refine kx_st 1 (pc' := 19) (L' := [some (.int 3)]) (st' := []) (h' := kv_wd g w) rfl ?_
  refine kx_st 1 (pc' := 20) (L' := [some (.int 3)]) (st' := [.int 0]) (h' := kv_wd g w) rfl ?_
  refine kx_ret (v := some (.int 0)) rfl ?_
  exact ⟨rfl, rfl⟩
set_option maxRecDepth 100000 in
theorem ev_above_4 {E : kv_V} {d : Nat} {g : kv_S} {w : kv_W} (hE : E 1001 = some (0, 7, kv_KA)) : kv_ev E (d + 1) 28 [.int 4] (kv_wd g w) (some (.int 1)) (kv_wd g w) := by
  refine kx_ev (d := d + 0) (by decide) (Nat.le_of_ble_eq_true rfl) ?_
  refine kx_st 0 (pc' := 0) (L' := [some (.int 4)]) (st' := []) (h' := kv_wd g w) rfl ?_
  refine kx_st 1 (pc' := 1) (L' := [some (.int 4)]) (st' := [.int 4]) (h' := kv_wd g w) rfl ?_
  refine kx_st 1 (pc' := 4) (L' := [some (.int 4)]) (st' := []) (h' := kv_wd g w) rfl ?_
  refine kx_st 2 (pc' := 8) (L' := [some (.int 4)]) (st' := [.ref 1001, .int 4]) (h' := kv_wd g w) rfl ?_
  refine kx_aE (n := 7) rfl hE (by decide) ?_
  refine kx_st 1 (pc' := 16) (L' := [some (.int 4)]) (st' := []) (h' := kv_wd g w) rfl ?_
  refine kx_st 2 (pc' := 20) (L' := [some (.int 4)]) (st' := [.int 4, .ref 1001]) (h' := kv_wd g w) rfl ?_
  refine kx_iE (k := 4) (f := kv_KA) rfl hE (by decide) rfl (by decide) (by omega) ?_
  refine kx_ret (v := some (.int (kv_KA 4))) rfl ?_
  exact ⟨rfl, rfl⟩
set_option maxRecDepth 100000 in
theorem ev_mabove_4 {E : kv_V} {d : Nat} {g : kv_S} {w : kv_W}  : kv_ev E (d + 1) 153 [.int 4] (kv_wd g w) (some (.int 1)) (kv_wd g w) := by
  refine kx_ev (d := d + 0) (by decide) (Nat.le_of_ble_eq_true rfl) ?_
  refine kx_st 0 (pc' := 0) (L' := [some (.int 4)]) (st' := []) (h' := kv_wd g w) rfl ?_
  refine kx_st 1 (pc' := 1) (L' := [some (.int 4)]) (st' := [.int 4]) (h' := kv_wd g w) rfl ?_
  refine kx_st 1 (pc' := 8) (L' := [some (.int 4)]) (st' := []) (h' := kv_wd g w) rfl ?_
  refine kx_st 2 (pc' := 10) (L' := [some (.int 4)]) (st' := [.int 3, .int 4]) (h' := kv_wd g w) rfl ?_
  refine kx_st 1 (pc' := 13) (L' := [some (.int 4)]) (st' := []) (h' := kv_wd g w) rfl ?_
  refine kx_st 4 (pc' := 20) (L' := [some (.int 4)]) (st' := [.int 1]) (h' := kv_wd g w) rfl ?_
  refine kx_ret (v := some (.int 1)) rfl ?_
  exact ⟨rfl, rfl⟩
set_option maxRecDepth 100000 in
theorem ev_above_5 {E : kv_V} {d : Nat} {g : kv_S} {w : kv_W} (hE : E 1001 = some (0, 7, kv_KA)) : kv_ev E (d + 1) 28 [.int 5] (kv_wd g w) (some (.int 2)) (kv_wd g w) := by
  refine kx_ev (d := d + 0) (by decide) (Nat.le_of_ble_eq_true rfl) ?_
  refine kx_st 0 (pc' := 0) (L' := [some (.int 5)]) (st' := []) (h' := kv_wd g w) rfl ?_
  refine kx_st 1 (pc' := 1) (L' := [some (.int 5)]) (st' := [.int 5]) (h' := kv_wd g w) rfl ?_
  refine kx_st 1 (pc' := 4) (L' := [some (.int 5)]) (st' := []) (h' := kv_wd g w) rfl ?_
  refine kx_st 2 (pc' := 8) (L' := [some (.int 5)]) (st' := [.ref 1001, .int 5]) (h' := kv_wd g w) rfl ?_
  refine kx_aE (n := 7) rfl hE (by decide) ?_
  refine kx_st 1 (pc' := 16) (L' := [some (.int 5)]) (st' := []) (h' := kv_wd g w) rfl ?_
  refine kx_st 2 (pc' := 20) (L' := [some (.int 5)]) (st' := [.int 5, .ref 1001]) (h' := kv_wd g w) rfl ?_
  refine kx_iE (k := 5) (f := kv_KA) rfl hE (by decide) rfl (by decide) (by omega) ?_
  refine kx_ret (v := some (.int (kv_KA 5))) rfl ?_
  exact ⟨rfl, rfl⟩
set_option maxRecDepth 100000 in
theorem ev_mabove_5 {E : kv_V} {d : Nat} {g : kv_S} {w : kv_W}  : kv_ev E (d + 1) 153 [.int 5] (kv_wd g w) (some (.int 2)) (kv_wd g w) := by
  refine kx_ev (d := d + 0) (by decide) (Nat.le_of_ble_eq_true rfl) ?_
  refine kx_st 0 (pc' := 0) (L' := [some (.int 5)]) (st' := []) (h' := kv_wd g w) rfl ?_
  refine kx_st 1 (pc' := 1) (L' := [some (.int 5)]) (st' := [.int 5]) (h' := kv_wd g w) rfl ?_
  refine kx_st 1 (pc' := 8) (L' := [some (.int 5)]) (st' := []) (h' := kv_wd g w) rfl ?_
  refine kx_st 2 (pc' := 10) (L' := [some (.int 5)]) (st' := [.int 3, .int 5]) (h' := kv_wd g w) rfl ?_
  refine kx_st 1 (pc' := 13) (L' := [some (.int 5)]) (st' := []) (h' := kv_wd g w) rfl ?_
  refine kx_st 4 (pc' := 20) (L' := [some (.int 5)]) (st' := [.int 2]) (h' := kv_wd g w) rfl ?_
  refine kx_ret (v := some (.int 2)) rfl ?_
  exact ⟨rfl, rfl⟩
set_option maxRecDepth 100000 in
theorem ev_above_6 {E : kv_V} {d : Nat} {g : kv_S} {w : kv_W} (hE : E 1001 = some (0, 7, kv_KA)) : kv_ev E (d + 1) 28 [.int 6] (kv_wd g w) (some (.int 3)) (kv_wd g w) := by
  refine kx_ev (d := d + 0) (by decide) (Nat.le_of_ble_eq_true rfl) ?_
  refine kx_st 0 (pc' := 0) (L' := [some (.int 6)]) (st' := []) (h' := kv_wd g w) rfl ?_
  refine kx_st 1 (pc' := 1) (L' := [some (.int 6)]) (st' := [.int 6]) (h' := kv_wd g w) rfl ?_
  refine kx_st 1 (pc' := 4) (L' := [some (.int 6)]) (st' := []) (h' := kv_wd g w) rfl ?_
  refine kx_st 2 (pc' := 8) (L' := [some (.int 6)]) (st' := [.ref 1001, .int 6]) (h' := kv_wd g w) rfl ?_
  refine kx_aE (n := 7) rfl hE (by decide) ?_
  refine kx_st 1 (pc' := 16) (L' := [some (.int 6)]) (st' := []) (h' := kv_wd g w) rfl ?_
  refine kx_st 2 (pc' := 20) (L' := [some (.int 6)]) (st' := [.int 6, .ref 1001]) (h' := kv_wd g w) rfl ?_
  refine kx_iE (k := 6) (f := kv_KA) rfl hE (by decide) rfl (by decide) (by omega) ?_
  refine kx_ret (v := some (.int (kv_KA 6))) rfl ?_
  exact ⟨rfl, rfl⟩
set_option maxRecDepth 100000 in
theorem ev_mabove_6 {E : kv_V} {d : Nat} {g : kv_S} {w : kv_W}  : kv_ev E (d + 1) 153 [.int 6] (kv_wd g w) (some (.int 3)) (kv_wd g w) := by
  refine kx_ev (d := d + 0) (by decide) (Nat.le_of_ble_eq_true rfl) ?_
  refine kx_st 0 (pc' := 0) (L' := [some (.int 6)]) (st' := []) (h' := kv_wd g w) rfl ?_
  refine kx_st 1 (pc' := 1) (L' := [some (.int 6)]) (st' := [.int 6]) (h' := kv_wd g w) rfl ?_
  refine kx_st 1 (pc' := 8) (L' := [some (.int 6)]) (st' := []) (h' := kv_wd g w) rfl ?_
  refine kx_st 2 (pc' := 10) (L' := [some (.int 6)]) (st' := [.int 3, .int 6]) (h' := kv_wd g w) rfl ?_
  refine kx_st 1 (pc' := 13) (L' := [some (.int 6)]) (st' := []) (h' := kv_wd g w) rfl ?_
  refine kx_st 4 (pc' := 20) (L' := [some (.int 6)]) (st' := [.int 3]) (h' := kv_wd g w) rfl ?_
  refine kx_ret (v := some (.int 3)) rfl ?_
  exact ⟨rfl, rfl⟩
set_option maxRecDepth 100000 in
theorem ev_isOf_0 {E : kv_V} {d : Nat} {g : kv_S} {w : kv_W} (hE : E 1001 = some (0, 7, kv_KA)) (k : Nat) (hk : k < 8) (h0 : g (14 + k) 0 = 0) (z : Int32) : kv_ev E (d + 2) 29 [.ref (14 + k), .int z] (kv_wd g w) (some (.int (kx_b (0 = z)))) (kv_wd g w) := by
  refine kx_ev (d := d + 1) (by decide) (Nat.le_of_ble_eq_true rfl) ?_
  refine kx_st 0 (pc' := 0) (L' := [some (.ref (14 + k)), some (.int z), none, none]) (st' := []) (h' := kv_wd g w) rfl ?_
  refine kx_st 1 (pc' := 1) (L' := [some (.ref (14 + k)), some (.int z), none, none]) (st' := [.ref (14 + k)]) (h' := kv_wd g w) rfl ?_
  refine kx_gf (i := 7) (k := 0) (v := .int 0) rfl rfl (kv_kn_h hk).1 ((kv_kn_h hk).2 _ _) (congrArg (fun z => some (Value.int z)) h0) ?_
  refine kx_st 5 (pc' := 11) (L' := [some (.ref (14 + k)), some (.int z), some (.int 0), some (.int 0)]) (st' := [.ref 1001, .int 0]) (h' := kv_wd g w) rfl ?_
  refine kx_aE (n := 7) rfl hE (by decide) ?_
  refine kx_st 1 (pc' := 15) (L' := [some (.ref (14 + k)), some (.int z), some (.int 0), some (.int 0)]) (st' := []) (h' := kv_wd g w) rfl ?_
  refine kx_st 1 (pc' := 16) (L' := [some (.ref (14 + k)), some (.int z), some (.int 0), some (.int 0)]) (st' := [.int 0]) (h' := kv_wd g w) rfl ?_
  refine kx_st 1 (pc' := 19) (L' := [some (.ref (14 + k)), some (.int z), some (.int 0), some (.int 0)]) (st' := []) (h' := kv_wd g w) rfl ?_
  refine kx_st 2 (pc' := 21) (L' := [some (.ref (14 + k)), some (.int z), some (.int 0), some (.int 0)]) (st' := [.int z, .int 0]) (h' := kv_wd g w) rfl ?_
  refine kx_bi (t := 26) rfl rfl (fun (h21 : ¬ 0 = z) => ?_) (fun (h21 : ¬ (¬ 0 = z)) => ?_)
  · refine kx_st 1 (pc' := 27) (L' := [some (.ref (14 + k)), some (.int z), some (.int 0), some (.int 0)]) (st' := [.int 0]) (h' := kv_wd g w) rfl ?_
    refine kx_call (z := 28) (as := [.int 0]) (rest := []) (v := some (.int (-1))) (h1 := kv_wd g w) rfl (ev_above_0 (d := d) hE) ?_
    refine kx_st 0 (pc' := 30) (L' := [some (.ref (14 + k)), some (.int z), some (.int 0), some (.int 0)]) (st' := [.int (-1)]) (h' := kv_wd g w) rfl ?_
    refine kx_st 5 (pc' := 11) (L' := [some (.ref (14 + k)), some (.int z), some (.int (-1)), some (.int (0 + 1))]) (st' := [.ref 1001, .int (0 + 1)]) (h' := kv_wd g w) rfl ?_
    refine kx_aE (n := 7) rfl hE (by decide) ?_
    refine kx_bi (t := 37) rfl rfl (fun (h12 : 7 ≤ 0 + 1) => ?_) (fun (h12 : ¬ (7 ≤ 0 + 1)) => ?_)
    · refine kx_st 1 (pc' := 38) (L' := [some (.ref (14 + k)), some (.int z), some (.int (-1)), some (.int (0 + 1))]) (st' := [.int 0]) (h' := kv_wd g w) rfl ?_
      refine kx_ret (v := some (.int 0)) rfl ?_
      exact ⟨kx_l0 (by grind), rfl⟩
    · refine kx_st 0 (pc' := 15) (L' := [some (.ref (14 + k)), some (.int z), some (.int (-1)), some (.int (0 + 1))]) (st' := []) (h' := kv_wd g w) rfl ?_
      refine kx_st 1 (pc' := 16) (L' := [some (.ref (14 + k)), some (.int z), some (.int (-1)), some (.int (0 + 1))]) (st' := [.int (-1)]) (h' := kv_wd g w) rfl ?_
      refine kx_st 1 (pc' := 37) (L' := [some (.ref (14 + k)), some (.int z), some (.int (-1)), some (.int (0 + 1))]) (st' := []) (h' := kv_wd g w) rfl ?_
      refine kx_st 1 (pc' := 38) (L' := [some (.ref (14 + k)), some (.int z), some (.int (-1)), some (.int (0 + 1))]) (st' := [.int 0]) (h' := kv_wd g w) rfl ?_
      refine kx_ret (v := some (.int 0)) rfl ?_
      exact ⟨kx_l0 (by grind), rfl⟩
  · refine kx_st 0 (pc' := 24) (L' := [some (.ref (14 + k)), some (.int z), some (.int 0), some (.int 0)]) (st' := []) (h' := kv_wd g w) rfl ?_
    refine kx_st 1 (pc' := 25) (L' := [some (.ref (14 + k)), some (.int z), some (.int 0), some (.int 0)]) (st' := [.int 1]) (h' := kv_wd g w) rfl ?_
    refine kx_ret (v := some (.int 1)) rfl ?_
    exact ⟨kx_l1 (by grind), rfl⟩
set_option maxRecDepth 100000 in
theorem ev_isOf_1 {E : kv_V} {d : Nat} {g : kv_S} {w : kv_W} (hE : E 1001 = some (0, 7, kv_KA)) (k : Nat) (hk : k < 8) (h0 : g (14 + k) 0 = 1) (z : Int32) : kv_ev E (d + 2) 29 [.ref (14 + k), .int z] (kv_wd g w) (some (.int (kx_b (1 = z ∨ 0 = z)))) (kv_wd g w) := by
  refine kx_ev (d := d + 1) (by decide) (Nat.le_of_ble_eq_true rfl) ?_
  refine kx_st 0 (pc' := 0) (L' := [some (.ref (14 + k)), some (.int z), none, none]) (st' := []) (h' := kv_wd g w) rfl ?_
  refine kx_st 1 (pc' := 1) (L' := [some (.ref (14 + k)), some (.int z), none, none]) (st' := [.ref (14 + k)]) (h' := kv_wd g w) rfl ?_
  refine kx_gf (i := 7) (k := 0) (v := .int 1) rfl rfl (kv_kn_h hk).1 ((kv_kn_h hk).2 _ _) (congrArg (fun z => some (Value.int z)) h0) ?_
  refine kx_st 5 (pc' := 11) (L' := [some (.ref (14 + k)), some (.int z), some (.int 1), some (.int 0)]) (st' := [.ref 1001, .int 0]) (h' := kv_wd g w) rfl ?_
  refine kx_aE (n := 7) rfl hE (by decide) ?_
  refine kx_st 1 (pc' := 15) (L' := [some (.ref (14 + k)), some (.int z), some (.int 1), some (.int 0)]) (st' := []) (h' := kv_wd g w) rfl ?_
  refine kx_st 1 (pc' := 16) (L' := [some (.ref (14 + k)), some (.int z), some (.int 1), some (.int 0)]) (st' := [.int 1]) (h' := kv_wd g w) rfl ?_
  refine kx_st 1 (pc' := 19) (L' := [some (.ref (14 + k)), some (.int z), some (.int 1), some (.int 0)]) (st' := []) (h' := kv_wd g w) rfl ?_
  refine kx_st 2 (pc' := 21) (L' := [some (.ref (14 + k)), some (.int z), some (.int 1), some (.int 0)]) (st' := [.int z, .int 1]) (h' := kv_wd g w) rfl ?_
  refine kx_bi (t := 26) rfl rfl (fun (h21 : ¬ 1 = z) => ?_) (fun (h21 : ¬ (¬ 1 = z)) => ?_)
  · refine kx_st 1 (pc' := 27) (L' := [some (.ref (14 + k)), some (.int z), some (.int 1), some (.int 0)]) (st' := [.int 1]) (h' := kv_wd g w) rfl ?_
    refine kx_call (z := 28) (as := [.int 1]) (rest := []) (v := some (.int 0)) (h1 := kv_wd g w) rfl (ev_above_1 (d := d) hE) ?_
    refine kx_st 0 (pc' := 30) (L' := [some (.ref (14 + k)), some (.int z), some (.int 1), some (.int 0)]) (st' := [.int 0]) (h' := kv_wd g w) rfl ?_
    refine kx_st 5 (pc' := 11) (L' := [some (.ref (14 + k)), some (.int z), some (.int 0), some (.int (0 + 1))]) (st' := [.ref 1001, .int (0 + 1)]) (h' := kv_wd g w) rfl ?_
    refine kx_aE (n := 7) rfl hE (by decide) ?_
    refine kx_bi (t := 37) rfl rfl (fun (h12 : 7 ≤ 0 + 1) => ?_) (fun (h12 : ¬ (7 ≤ 0 + 1)) => ?_)
    · refine kx_st 1 (pc' := 38) (L' := [some (.ref (14 + k)), some (.int z), some (.int 0), some (.int (0 + 1))]) (st' := [.int 0]) (h' := kv_wd g w) rfl ?_
      refine kx_ret (v := some (.int 0)) rfl ?_
      exact ⟨kx_l0 (by grind), rfl⟩
    · refine kx_st 0 (pc' := 15) (L' := [some (.ref (14 + k)), some (.int z), some (.int 0), some (.int (0 + 1))]) (st' := []) (h' := kv_wd g w) rfl ?_
      refine kx_st 1 (pc' := 16) (L' := [some (.ref (14 + k)), some (.int z), some (.int 0), some (.int (0 + 1))]) (st' := [.int 0]) (h' := kv_wd g w) rfl ?_
      refine kx_st 1 (pc' := 19) (L' := [some (.ref (14 + k)), some (.int z), some (.int 0), some (.int (0 + 1))]) (st' := []) (h' := kv_wd g w) rfl ?_
      refine kx_st 2 (pc' := 21) (L' := [some (.ref (14 + k)), some (.int z), some (.int 0), some (.int (0 + 1))]) (st' := [.int z, .int 0]) (h' := kv_wd g w) rfl ?_
      refine kx_bi (t := 26) rfl rfl (fun (h21_1 : ¬ 0 = z) => ?_) (fun (h21_1 : ¬ (¬ 0 = z)) => ?_)
      · refine kx_st 1 (pc' := 27) (L' := [some (.ref (14 + k)), some (.int z), some (.int 0), some (.int (0 + 1))]) (st' := [.int 0]) (h' := kv_wd g w) rfl ?_
        refine kx_call (z := 28) (as := [.int 0]) (rest := []) (v := some (.int (-1))) (h1 := kv_wd g w) rfl (ev_above_0 (d := d) hE) ?_
        refine kx_st 0 (pc' := 30) (L' := [some (.ref (14 + k)), some (.int z), some (.int 0), some (.int (0 + 1))]) (st' := [.int (-1)]) (h' := kv_wd g w) rfl ?_
        refine kx_st 5 (pc' := 11) (L' := [some (.ref (14 + k)), some (.int z), some (.int (-1)), some (.int ((0 + 1) + 1))]) (st' := [.ref 1001, .int ((0 + 1) + 1)]) (h' := kv_wd g w) rfl ?_
        refine kx_aE (n := 7) rfl hE (by decide) ?_
        refine kx_bi (t := 37) rfl rfl (fun (h12_1 : 7 ≤ (0 + 1) + 1) => ?_) (fun (h12_1 : ¬ (7 ≤ (0 + 1) + 1)) => ?_)
        · refine kx_st 1 (pc' := 38) (L' := [some (.ref (14 + k)), some (.int z), some (.int (-1)), some (.int ((0 + 1) + 1))]) (st' := [.int 0]) (h' := kv_wd g w) rfl ?_
          refine kx_ret (v := some (.int 0)) rfl ?_
          exact ⟨kx_l0 (by grind), rfl⟩
        · refine kx_st 0 (pc' := 15) (L' := [some (.ref (14 + k)), some (.int z), some (.int (-1)), some (.int ((0 + 1) + 1))]) (st' := []) (h' := kv_wd g w) rfl ?_
          refine kx_st 1 (pc' := 16) (L' := [some (.ref (14 + k)), some (.int z), some (.int (-1)), some (.int ((0 + 1) + 1))]) (st' := [.int (-1)]) (h' := kv_wd g w) rfl ?_
          refine kx_st 1 (pc' := 37) (L' := [some (.ref (14 + k)), some (.int z), some (.int (-1)), some (.int ((0 + 1) + 1))]) (st' := []) (h' := kv_wd g w) rfl ?_
          refine kx_st 1 (pc' := 38) (L' := [some (.ref (14 + k)), some (.int z), some (.int (-1)), some (.int ((0 + 1) + 1))]) (st' := [.int 0]) (h' := kv_wd g w) rfl ?_
          refine kx_ret (v := some (.int 0)) rfl ?_
          exact ⟨kx_l0 (by grind), rfl⟩
      · refine kx_st 0 (pc' := 24) (L' := [some (.ref (14 + k)), some (.int z), some (.int 0), some (.int (0 + 1))]) (st' := []) (h' := kv_wd g w) rfl ?_
        refine kx_st 1 (pc' := 25) (L' := [some (.ref (14 + k)), some (.int z), some (.int 0), some (.int (0 + 1))]) (st' := [.int 1]) (h' := kv_wd g w) rfl ?_
        refine kx_ret (v := some (.int 1)) rfl ?_
        exact ⟨kx_l1 (by grind), rfl⟩
  · refine kx_st 0 (pc' := 24) (L' := [some (.ref (14 + k)), some (.int z), some (.int 1), some (.int 0)]) (st' := []) (h' := kv_wd g w) rfl ?_
    refine kx_st 1 (pc' := 25) (L' := [some (.ref (14 + k)), some (.int z), some (.int 1), some (.int 0)]) (st' := [.int 1]) (h' := kv_wd g w) rfl ?_
    refine kx_ret (v := some (.int 1)) rfl ?_
    exact ⟨kx_l1 (by grind), rfl⟩
set_option maxRecDepth 100000 in
theorem ev_isOf_2 {E : kv_V} {d : Nat} {g : kv_S} {w : kv_W} (hE : E 1001 = some (0, 7, kv_KA)) (k : Nat) (hk : k < 8) (h0 : g (14 + k) 0 = 2) (z : Int32) : kv_ev E (d + 2) 29 [.ref (14 + k), .int z] (kv_wd g w) (some (.int (kx_b (2 = z ∨ 0 = z)))) (kv_wd g w) := by
  refine kx_ev (d := d + 1) (by decide) (Nat.le_of_ble_eq_true rfl) ?_
  refine kx_st 0 (pc' := 0) (L' := [some (.ref (14 + k)), some (.int z), none, none]) (st' := []) (h' := kv_wd g w) rfl ?_
  refine kx_st 1 (pc' := 1) (L' := [some (.ref (14 + k)), some (.int z), none, none]) (st' := [.ref (14 + k)]) (h' := kv_wd g w) rfl ?_
  refine kx_gf (i := 7) (k := 0) (v := .int 2) rfl rfl (kv_kn_h hk).1 ((kv_kn_h hk).2 _ _) (congrArg (fun z => some (Value.int z)) h0) ?_
  refine kx_st 5 (pc' := 11) (L' := [some (.ref (14 + k)), some (.int z), some (.int 2), some (.int 0)]) (st' := [.ref 1001, .int 0]) (h' := kv_wd g w) rfl ?_
  refine kx_aE (n := 7) rfl hE (by decide) ?_
  refine kx_st 1 (pc' := 15) (L' := [some (.ref (14 + k)), some (.int z), some (.int 2), some (.int 0)]) (st' := []) (h' := kv_wd g w) rfl ?_
  refine kx_st 1 (pc' := 16) (L' := [some (.ref (14 + k)), some (.int z), some (.int 2), some (.int 0)]) (st' := [.int 2]) (h' := kv_wd g w) rfl ?_
  refine kx_st 1 (pc' := 19) (L' := [some (.ref (14 + k)), some (.int z), some (.int 2), some (.int 0)]) (st' := []) (h' := kv_wd g w) rfl ?_
  refine kx_st 2 (pc' := 21) (L' := [some (.ref (14 + k)), some (.int z), some (.int 2), some (.int 0)]) (st' := [.int z, .int 2]) (h' := kv_wd g w) rfl ?_
  refine kx_bi (t := 26) rfl rfl (fun (h21 : ¬ 2 = z) => ?_) (fun (h21 : ¬ (¬ 2 = z)) => ?_)
  · refine kx_st 1 (pc' := 27) (L' := [some (.ref (14 + k)), some (.int z), some (.int 2), some (.int 0)]) (st' := [.int 2]) (h' := kv_wd g w) rfl ?_
    refine kx_call (z := 28) (as := [.int 2]) (rest := []) (v := some (.int 0)) (h1 := kv_wd g w) rfl (ev_above_2 (d := d) hE) ?_
    refine kx_st 0 (pc' := 30) (L' := [some (.ref (14 + k)), some (.int z), some (.int 2), some (.int 0)]) (st' := [.int 0]) (h' := kv_wd g w) rfl ?_
    refine kx_st 5 (pc' := 11) (L' := [some (.ref (14 + k)), some (.int z), some (.int 0), some (.int (0 + 1))]) (st' := [.ref 1001, .int (0 + 1)]) (h' := kv_wd g w) rfl ?_
    refine kx_aE (n := 7) rfl hE (by decide) ?_
    refine kx_bi (t := 37) rfl rfl (fun (h12 : 7 ≤ 0 + 1) => ?_) (fun (h12 : ¬ (7 ≤ 0 + 1)) => ?_)
    · refine kx_st 1 (pc' := 38) (L' := [some (.ref (14 + k)), some (.int z), some (.int 0), some (.int (0 + 1))]) (st' := [.int 0]) (h' := kv_wd g w) rfl ?_
      refine kx_ret (v := some (.int 0)) rfl ?_
      exact ⟨kx_l0 (by grind), rfl⟩
    · refine kx_st 0 (pc' := 15) (L' := [some (.ref (14 + k)), some (.int z), some (.int 0), some (.int (0 + 1))]) (st' := []) (h' := kv_wd g w) rfl ?_
      refine kx_st 1 (pc' := 16) (L' := [some (.ref (14 + k)), some (.int z), some (.int 0), some (.int (0 + 1))]) (st' := [.int 0]) (h' := kv_wd g w) rfl ?_
      refine kx_st 1 (pc' := 19) (L' := [some (.ref (14 + k)), some (.int z), some (.int 0), some (.int (0 + 1))]) (st' := []) (h' := kv_wd g w) rfl ?_
      refine kx_st 2 (pc' := 21) (L' := [some (.ref (14 + k)), some (.int z), some (.int 0), some (.int (0 + 1))]) (st' := [.int z, .int 0]) (h' := kv_wd g w) rfl ?_
      refine kx_bi (t := 26) rfl rfl (fun (h21_1 : ¬ 0 = z) => ?_) (fun (h21_1 : ¬ (¬ 0 = z)) => ?_)
      · refine kx_st 1 (pc' := 27) (L' := [some (.ref (14 + k)), some (.int z), some (.int 0), some (.int (0 + 1))]) (st' := [.int 0]) (h' := kv_wd g w) rfl ?_
        refine kx_call (z := 28) (as := [.int 0]) (rest := []) (v := some (.int (-1))) (h1 := kv_wd g w) rfl (ev_above_0 (d := d) hE) ?_
        refine kx_st 0 (pc' := 30) (L' := [some (.ref (14 + k)), some (.int z), some (.int 0), some (.int (0 + 1))]) (st' := [.int (-1)]) (h' := kv_wd g w) rfl ?_
        refine kx_st 5 (pc' := 11) (L' := [some (.ref (14 + k)), some (.int z), some (.int (-1)), some (.int ((0 + 1) + 1))]) (st' := [.ref 1001, .int ((0 + 1) + 1)]) (h' := kv_wd g w) rfl ?_
        refine kx_aE (n := 7) rfl hE (by decide) ?_
        refine kx_bi (t := 37) rfl rfl (fun (h12_1 : 7 ≤ (0 + 1) + 1) => ?_) (fun (h12_1 : ¬ (7 ≤ (0 + 1) + 1)) => ?_)
        · refine kx_st 1 (pc' := 38) (L' := [some (.ref (14 + k)), some (.int z), some (.int (-1)), some (.int ((0 + 1) + 1))]) (st' := [.int 0]) (h' := kv_wd g w) rfl ?_
          refine kx_ret (v := some (.int 0)) rfl ?_
          exact ⟨kx_l0 (by grind), rfl⟩
        · refine kx_st 0 (pc' := 15) (L' := [some (.ref (14 + k)), some (.int z), some (.int (-1)), some (.int ((0 + 1) + 1))]) (st' := []) (h' := kv_wd g w) rfl ?_
          refine kx_st 1 (pc' := 16) (L' := [some (.ref (14 + k)), some (.int z), some (.int (-1)), some (.int ((0 + 1) + 1))]) (st' := [.int (-1)]) (h' := kv_wd g w) rfl ?_
          refine kx_st 1 (pc' := 37) (L' := [some (.ref (14 + k)), some (.int z), some (.int (-1)), some (.int ((0 + 1) + 1))]) (st' := []) (h' := kv_wd g w) rfl ?_
          refine kx_st 1 (pc' := 38) (L' := [some (.ref (14 + k)), some (.int z), some (.int (-1)), some (.int ((0 + 1) + 1))]) (st' := [.int 0]) (h' := kv_wd g w) rfl ?_
          refine kx_ret (v := some (.int 0)) rfl ?_
          exact ⟨kx_l0 (by grind), rfl⟩
      · refine kx_st 0 (pc' := 24) (L' := [some (.ref (14 + k)), some (.int z), some (.int 0), some (.int (0 + 1))]) (st' := []) (h' := kv_wd g w) rfl ?_
        refine kx_st 1 (pc' := 25) (L' := [some (.ref (14 + k)), some (.int z), some (.int 0), some (.int (0 + 1))]) (st' := [.int 1]) (h' := kv_wd g w) rfl ?_
        refine kx_ret (v := some (.int 1)) rfl ?_
        exact ⟨kx_l1 (by grind), rfl⟩
  · refine kx_st 0 (pc' := 24) (L' := [some (.ref (14 + k)), some (.int z), some (.int 2), some (.int 0)]) (st' := []) (h' := kv_wd g w) rfl ?_
    refine kx_st 1 (pc' := 25) (L' := [some (.ref (14 + k)), some (.int z), some (.int 2), some (.int 0)]) (st' := [.int 1]) (h' := kv_wd g w) rfl ?_
    refine kx_ret (v := some (.int 1)) rfl ?_
    exact ⟨kx_l1 (by grind), rfl⟩
set_option maxRecDepth 100000 in
theorem ev_isOf_3 {E : kv_V} {d : Nat} {g : kv_S} {w : kv_W} (hE : E 1001 = some (0, 7, kv_KA)) (k : Nat) (hk : k < 8) (h0 : g (14 + k) 0 = 3) (z : Int32) : kv_ev E (d + 2) 29 [.ref (14 + k), .int z] (kv_wd g w) (some (.int (kx_b (3 = z ∨ 0 = z)))) (kv_wd g w) := by
  refine kx_ev (d := d + 1) (by decide) (Nat.le_of_ble_eq_true rfl) ?_
  refine kx_st 0 (pc' := 0) (L' := [some (.ref (14 + k)), some (.int z), none, none]) (st' := []) (h' := kv_wd g w) rfl ?_
  refine kx_st 1 (pc' := 1) (L' := [some (.ref (14 + k)), some (.int z), none, none]) (st' := [.ref (14 + k)]) (h' := kv_wd g w) rfl ?_
  refine kx_gf (i := 7) (k := 0) (v := .int 3) rfl rfl (kv_kn_h hk).1 ((kv_kn_h hk).2 _ _) (congrArg (fun z => some (Value.int z)) h0) ?_
  refine kx_st 5 (pc' := 11) (L' := [some (.ref (14 + k)), some (.int z), some (.int 3), some (.int 0)]) (st' := [.ref 1001, .int 0]) (h' := kv_wd g w) rfl ?_
  refine kx_aE (n := 7) rfl hE (by decide) ?_
  refine kx_st 1 (pc' := 15) (L' := [some (.ref (14 + k)), some (.int z), some (.int 3), some (.int 0)]) (st' := []) (h' := kv_wd g w) rfl ?_
  refine kx_st 1 (pc' := 16) (L' := [some (.ref (14 + k)), some (.int z), some (.int 3), some (.int 0)]) (st' := [.int 3]) (h' := kv_wd g w) rfl ?_
  refine kx_st 1 (pc' := 19) (L' := [some (.ref (14 + k)), some (.int z), some (.int 3), some (.int 0)]) (st' := []) (h' := kv_wd g w) rfl ?_
  refine kx_st 2 (pc' := 21) (L' := [some (.ref (14 + k)), some (.int z), some (.int 3), some (.int 0)]) (st' := [.int z, .int 3]) (h' := kv_wd g w) rfl ?_
  refine kx_bi (t := 26) rfl rfl (fun (h21 : ¬ 3 = z) => ?_) (fun (h21 : ¬ (¬ 3 = z)) => ?_)
  · refine kx_st 1 (pc' := 27) (L' := [some (.ref (14 + k)), some (.int z), some (.int 3), some (.int 0)]) (st' := [.int 3]) (h' := kv_wd g w) rfl ?_
    refine kx_call (z := 28) (as := [.int 3]) (rest := []) (v := some (.int 0)) (h1 := kv_wd g w) rfl (ev_above_3 (d := d) hE) ?_
    refine kx_st 0 (pc' := 30) (L' := [some (.ref (14 + k)), some (.int z), some (.int 3), some (.int 0)]) (st' := [.int 0]) (h' := kv_wd g w) rfl ?_
    refine kx_st 5 (pc' := 11) (L' := [some (.ref (14 + k)), some (.int z), some (.int 0), some (.int (0 + 1))]) (st' := [.ref 1001, .int (0 + 1)]) (h' := kv_wd g w) rfl ?_
    refine kx_aE (n := 7) rfl hE (by decide) ?_
    refine kx_bi (t := 37) rfl rfl (fun (h12 : 7 ≤ 0 + 1) => ?_) (fun (h12 : ¬ (7 ≤ 0 + 1)) => ?_)
    · refine kx_st 1 (pc' := 38) (L' := [some (.ref (14 + k)), some (.int z), some (.int 0), some (.int (0 + 1))]) (st' := [.int 0]) (h' := kv_wd g w) rfl ?_
      refine kx_ret (v := some (.int 0)) rfl ?_
      exact ⟨kx_l0 (by grind), rfl⟩
    · refine kx_st 0 (pc' := 15) (L' := [some (.ref (14 + k)), some (.int z), some (.int 0), some (.int (0 + 1))]) (st' := []) (h' := kv_wd g w) rfl ?_
      refine kx_st 1 (pc' := 16) (L' := [some (.ref (14 + k)), some (.int z), some (.int 0), some (.int (0 + 1))]) (st' := [.int 0]) (h' := kv_wd g w) rfl ?_
      refine kx_st 1 (pc' := 19) (L' := [some (.ref (14 + k)), some (.int z), some (.int 0), some (.int (0 + 1))]) (st' := []) (h' := kv_wd g w) rfl ?_
      refine kx_st 2 (pc' := 21) (L' := [some (.ref (14 + k)), some (.int z), some (.int 0), some (.int (0 + 1))]) (st' := [.int z, .int 0]) (h' := kv_wd g w) rfl ?_
      refine kx_bi (t := 26) rfl rfl (fun (h21_1 : ¬ 0 = z) => ?_) (fun (h21_1 : ¬ (¬ 0 = z)) => ?_)
      · refine kx_st 1 (pc' := 27) (L' := [some (.ref (14 + k)), some (.int z), some (.int 0), some (.int (0 + 1))]) (st' := [.int 0]) (h' := kv_wd g w) rfl ?_
        refine kx_call (z := 28) (as := [.int 0]) (rest := []) (v := some (.int (-1))) (h1 := kv_wd g w) rfl (ev_above_0 (d := d) hE) ?_
        refine kx_st 0 (pc' := 30) (L' := [some (.ref (14 + k)), some (.int z), some (.int 0), some (.int (0 + 1))]) (st' := [.int (-1)]) (h' := kv_wd g w) rfl ?_
        refine kx_st 5 (pc' := 11) (L' := [some (.ref (14 + k)), some (.int z), some (.int (-1)), some (.int ((0 + 1) + 1))]) (st' := [.ref 1001, .int ((0 + 1) + 1)]) (h' := kv_wd g w) rfl ?_
        refine kx_aE (n := 7) rfl hE (by decide) ?_
        refine kx_bi (t := 37) rfl rfl (fun (h12_1 : 7 ≤ (0 + 1) + 1) => ?_) (fun (h12_1 : ¬ (7 ≤ (0 + 1) + 1)) => ?_)
        · refine kx_st 1 (pc' := 38) (L' := [some (.ref (14 + k)), some (.int z), some (.int (-1)), some (.int ((0 + 1) + 1))]) (st' := [.int 0]) (h' := kv_wd g w) rfl ?_
          refine kx_ret (v := some (.int 0)) rfl ?_
          exact ⟨kx_l0 (by grind), rfl⟩
        · refine kx_st 0 (pc' := 15) (L' := [some (.ref (14 + k)), some (.int z), some (.int (-1)), some (.int ((0 + 1) + 1))]) (st' := []) (h' := kv_wd g w) rfl ?_
          refine kx_st 1 (pc' := 16) (L' := [some (.ref (14 + k)), some (.int z), some (.int (-1)), some (.int ((0 + 1) + 1))]) (st' := [.int (-1)]) (h' := kv_wd g w) rfl ?_
          refine kx_st 1 (pc' := 37) (L' := [some (.ref (14 + k)), some (.int z), some (.int (-1)), some (.int ((0 + 1) + 1))]) (st' := []) (h' := kv_wd g w) rfl ?_
          refine kx_st 1 (pc' := 38) (L' := [some (.ref (14 + k)), some (.int z), some (.int (-1)), some (.int ((0 + 1) + 1))]) (st' := [.int 0]) (h' := kv_wd g w) rfl ?_
          refine kx_ret (v := some (.int 0)) rfl ?_
          exact ⟨kx_l0 (by grind), rfl⟩
      · refine kx_st 0 (pc' := 24) (L' := [some (.ref (14 + k)), some (.int z), some (.int 0), some (.int (0 + 1))]) (st' := []) (h' := kv_wd g w) rfl ?_
        refine kx_st 1 (pc' := 25) (L' := [some (.ref (14 + k)), some (.int z), some (.int 0), some (.int (0 + 1))]) (st' := [.int 1]) (h' := kv_wd g w) rfl ?_
        refine kx_ret (v := some (.int 1)) rfl ?_
        exact ⟨kx_l1 (by grind), rfl⟩
  · refine kx_st 0 (pc' := 24) (L' := [some (.ref (14 + k)), some (.int z), some (.int 3), some (.int 0)]) (st' := []) (h' := kv_wd g w) rfl ?_
    refine kx_st 1 (pc' := 25) (L' := [some (.ref (14 + k)), some (.int z), some (.int 3), some (.int 0)]) (st' := [.int 1]) (h' := kv_wd g w) rfl ?_
    refine kx_ret (v := some (.int 1)) rfl ?_
    exact ⟨kx_l1 (by grind), rfl⟩
set_option maxRecDepth 100000 in
theorem ev_isOf_4 {E : kv_V} {d : Nat} {g : kv_S} {w : kv_W} (hE : E 1001 = some (0, 7, kv_KA)) (k : Nat) (hk : k < 8) (h0 : g (14 + k) 0 = 4) (z : Int32) : kv_ev E (d + 2) 29 [.ref (14 + k), .int z] (kv_wd g w) (some (.int (kx_b (4 = z ∨ 1 = z ∨ 0 = z)))) (kv_wd g w) := by
  refine kx_ev (d := d + 1) (by decide) (Nat.le_of_ble_eq_true rfl) ?_
  refine kx_st 0 (pc' := 0) (L' := [some (.ref (14 + k)), some (.int z), none, none]) (st' := []) (h' := kv_wd g w) rfl ?_
  refine kx_st 1 (pc' := 1) (L' := [some (.ref (14 + k)), some (.int z), none, none]) (st' := [.ref (14 + k)]) (h' := kv_wd g w) rfl ?_
  refine kx_gf (i := 7) (k := 0) (v := .int 4) rfl rfl (kv_kn_h hk).1 ((kv_kn_h hk).2 _ _) (congrArg (fun z => some (Value.int z)) h0) ?_
  refine kx_st 5 (pc' := 11) (L' := [some (.ref (14 + k)), some (.int z), some (.int 4), some (.int 0)]) (st' := [.ref 1001, .int 0]) (h' := kv_wd g w) rfl ?_
  refine kx_aE (n := 7) rfl hE (by decide) ?_
  refine kx_st 1 (pc' := 15) (L' := [some (.ref (14 + k)), some (.int z), some (.int 4), some (.int 0)]) (st' := []) (h' := kv_wd g w) rfl ?_
  refine kx_st 1 (pc' := 16) (L' := [some (.ref (14 + k)), some (.int z), some (.int 4), some (.int 0)]) (st' := [.int 4]) (h' := kv_wd g w) rfl ?_
  refine kx_st 1 (pc' := 19) (L' := [some (.ref (14 + k)), some (.int z), some (.int 4), some (.int 0)]) (st' := []) (h' := kv_wd g w) rfl ?_
  refine kx_st 2 (pc' := 21) (L' := [some (.ref (14 + k)), some (.int z), some (.int 4), some (.int 0)]) (st' := [.int z, .int 4]) (h' := kv_wd g w) rfl ?_
  refine kx_bi (t := 26) rfl rfl (fun (h21 : ¬ 4 = z) => ?_) (fun (h21 : ¬ (¬ 4 = z)) => ?_)
  · refine kx_st 1 (pc' := 27) (L' := [some (.ref (14 + k)), some (.int z), some (.int 4), some (.int 0)]) (st' := [.int 4]) (h' := kv_wd g w) rfl ?_
    refine kx_call (z := 28) (as := [.int 4]) (rest := []) (v := some (.int 1)) (h1 := kv_wd g w) rfl (ev_above_4 (d := d) hE) ?_
    refine kx_st 0 (pc' := 30) (L' := [some (.ref (14 + k)), some (.int z), some (.int 4), some (.int 0)]) (st' := [.int 1]) (h' := kv_wd g w) rfl ?_
    refine kx_st 5 (pc' := 11) (L' := [some (.ref (14 + k)), some (.int z), some (.int 1), some (.int (0 + 1))]) (st' := [.ref 1001, .int (0 + 1)]) (h' := kv_wd g w) rfl ?_
    refine kx_aE (n := 7) rfl hE (by decide) ?_
    refine kx_bi (t := 37) rfl rfl (fun (h12 : 7 ≤ 0 + 1) => ?_) (fun (h12 : ¬ (7 ≤ 0 + 1)) => ?_)
    · refine kx_st 1 (pc' := 38) (L' := [some (.ref (14 + k)), some (.int z), some (.int 1), some (.int (0 + 1))]) (st' := [.int 0]) (h' := kv_wd g w) rfl ?_
      refine kx_ret (v := some (.int 0)) rfl ?_
      exact ⟨kx_l0 (by grind), rfl⟩
    · refine kx_st 0 (pc' := 15) (L' := [some (.ref (14 + k)), some (.int z), some (.int 1), some (.int (0 + 1))]) (st' := []) (h' := kv_wd g w) rfl ?_
      refine kx_st 1 (pc' := 16) (L' := [some (.ref (14 + k)), some (.int z), some (.int 1), some (.int (0 + 1))]) (st' := [.int 1]) (h' := kv_wd g w) rfl ?_
      refine kx_st 1 (pc' := 19) (L' := [some (.ref (14 + k)), some (.int z), some (.int 1), some (.int (0 + 1))]) (st' := []) (h' := kv_wd g w) rfl ?_
      refine kx_st 2 (pc' := 21) (L' := [some (.ref (14 + k)), some (.int z), some (.int 1), some (.int (0 + 1))]) (st' := [.int z, .int 1]) (h' := kv_wd g w) rfl ?_
      refine kx_bi (t := 26) rfl rfl (fun (h21_1 : ¬ 1 = z) => ?_) (fun (h21_1 : ¬ (¬ 1 = z)) => ?_)
      · refine kx_st 1 (pc' := 27) (L' := [some (.ref (14 + k)), some (.int z), some (.int 1), some (.int (0 + 1))]) (st' := [.int 1]) (h' := kv_wd g w) rfl ?_
        refine kx_call (z := 28) (as := [.int 1]) (rest := []) (v := some (.int 0)) (h1 := kv_wd g w) rfl (ev_above_1 (d := d) hE) ?_
        refine kx_st 0 (pc' := 30) (L' := [some (.ref (14 + k)), some (.int z), some (.int 1), some (.int (0 + 1))]) (st' := [.int 0]) (h' := kv_wd g w) rfl ?_
        refine kx_st 5 (pc' := 11) (L' := [some (.ref (14 + k)), some (.int z), some (.int 0), some (.int ((0 + 1) + 1))]) (st' := [.ref 1001, .int ((0 + 1) + 1)]) (h' := kv_wd g w) rfl ?_
        refine kx_aE (n := 7) rfl hE (by decide) ?_
        refine kx_bi (t := 37) rfl rfl (fun (h12_1 : 7 ≤ (0 + 1) + 1) => ?_) (fun (h12_1 : ¬ (7 ≤ (0 + 1) + 1)) => ?_)
        · refine kx_st 1 (pc' := 38) (L' := [some (.ref (14 + k)), some (.int z), some (.int 0), some (.int ((0 + 1) + 1))]) (st' := [.int 0]) (h' := kv_wd g w) rfl ?_
          refine kx_ret (v := some (.int 0)) rfl ?_
          exact ⟨kx_l0 (by grind), rfl⟩
        · refine kx_st 0 (pc' := 15) (L' := [some (.ref (14 + k)), some (.int z), some (.int 0), some (.int ((0 + 1) + 1))]) (st' := []) (h' := kv_wd g w) rfl ?_
          refine kx_st 1 (pc' := 16) (L' := [some (.ref (14 + k)), some (.int z), some (.int 0), some (.int ((0 + 1) + 1))]) (st' := [.int 0]) (h' := kv_wd g w) rfl ?_
          refine kx_st 1 (pc' := 19) (L' := [some (.ref (14 + k)), some (.int z), some (.int 0), some (.int ((0 + 1) + 1))]) (st' := []) (h' := kv_wd g w) rfl ?_
          refine kx_st 2 (pc' := 21) (L' := [some (.ref (14 + k)), some (.int z), some (.int 0), some (.int ((0 + 1) + 1))]) (st' := [.int z, .int 0]) (h' := kv_wd g w) rfl ?_
          refine kx_bi (t := 26) rfl rfl (fun (h21_2 : ¬ 0 = z) => ?_) (fun (h21_2 : ¬ (¬ 0 = z)) => ?_)
          · refine kx_st 1 (pc' := 27) (L' := [some (.ref (14 + k)), some (.int z), some (.int 0), some (.int ((0 + 1) + 1))]) (st' := [.int 0]) (h' := kv_wd g w) rfl ?_
            refine kx_call (z := 28) (as := [.int 0]) (rest := []) (v := some (.int (-1))) (h1 := kv_wd g w) rfl (ev_above_0 (d := d) hE) ?_
            refine kx_st 0 (pc' := 30) (L' := [some (.ref (14 + k)), some (.int z), some (.int 0), some (.int ((0 + 1) + 1))]) (st' := [.int (-1)]) (h' := kv_wd g w) rfl ?_
            refine kx_st 5 (pc' := 11) (L' := [some (.ref (14 + k)), some (.int z), some (.int (-1)), some (.int (((0 + 1) + 1) + 1))]) (st' := [.ref 1001, .int (((0 + 1) + 1) + 1)]) (h' := kv_wd g w) rfl ?_
            refine kx_aE (n := 7) rfl hE (by decide) ?_
            refine kx_bi (t := 37) rfl rfl (fun (h12_2 : 7 ≤ ((0 + 1) + 1) + 1) => ?_) (fun (h12_2 : ¬ (7 ≤ ((0 + 1) + 1) + 1)) => ?_)
            · refine kx_st 1 (pc' := 38) (L' := [some (.ref (14 + k)), some (.int z), some (.int (-1)), some (.int (((0 + 1) + 1) + 1))]) (st' := [.int 0]) (h' := kv_wd g w) rfl ?_
              refine kx_ret (v := some (.int 0)) rfl ?_
              exact ⟨kx_l0 (by grind), rfl⟩
            · refine kx_st 0 (pc' := 15) (L' := [some (.ref (14 + k)), some (.int z), some (.int (-1)), some (.int (((0 + 1) + 1) + 1))]) (st' := []) (h' := kv_wd g w) rfl ?_
              refine kx_st 1 (pc' := 16) (L' := [some (.ref (14 + k)), some (.int z), some (.int (-1)), some (.int (((0 + 1) + 1) + 1))]) (st' := [.int (-1)]) (h' := kv_wd g w) rfl ?_
              refine kx_st 1 (pc' := 37) (L' := [some (.ref (14 + k)), some (.int z), some (.int (-1)), some (.int (((0 + 1) + 1) + 1))]) (st' := []) (h' := kv_wd g w) rfl ?_
              refine kx_st 1 (pc' := 38) (L' := [some (.ref (14 + k)), some (.int z), some (.int (-1)), some (.int (((0 + 1) + 1) + 1))]) (st' := [.int 0]) (h' := kv_wd g w) rfl ?_
              refine kx_ret (v := some (.int 0)) rfl ?_
              exact ⟨kx_l0 (by grind), rfl⟩
          · refine kx_st 0 (pc' := 24) (L' := [some (.ref (14 + k)), some (.int z), some (.int 0), some (.int ((0 + 1) + 1))]) (st' := []) (h' := kv_wd g w) rfl ?_
            refine kx_st 1 (pc' := 25) (L' := [some (.ref (14 + k)), some (.int z), some (.int 0), some (.int ((0 + 1) + 1))]) (st' := [.int 1]) (h' := kv_wd g w) rfl ?_
            refine kx_ret (v := some (.int 1)) rfl ?_
            exact ⟨kx_l1 (by grind), rfl⟩
      · refine kx_st 0 (pc' := 24) (L' := [some (.ref (14 + k)), some (.int z), some (.int 1), some (.int (0 + 1))]) (st' := []) (h' := kv_wd g w) rfl ?_
        refine kx_st 1 (pc' := 25) (L' := [some (.ref (14 + k)), some (.int z), some (.int 1), some (.int (0 + 1))]) (st' := [.int 1]) (h' := kv_wd g w) rfl ?_
        refine kx_ret (v := some (.int 1)) rfl ?_
        exact ⟨kx_l1 (by grind), rfl⟩
  · refine kx_st 0 (pc' := 24) (L' := [some (.ref (14 + k)), some (.int z), some (.int 4), some (.int 0)]) (st' := []) (h' := kv_wd g w) rfl ?_
    refine kx_st 1 (pc' := 25) (L' := [some (.ref (14 + k)), some (.int z), some (.int 4), some (.int 0)]) (st' := [.int 1]) (h' := kv_wd g w) rfl ?_
    refine kx_ret (v := some (.int 1)) rfl ?_
    exact ⟨kx_l1 (by grind), rfl⟩
set_option maxRecDepth 100000 in
theorem ev_isOf_5 {E : kv_V} {d : Nat} {g : kv_S} {w : kv_W} (hE : E 1001 = some (0, 7, kv_KA)) (k : Nat) (hk : k < 8) (h0 : g (14 + k) 0 = 5) (z : Int32) : kv_ev E (d + 2) 29 [.ref (14 + k), .int z] (kv_wd g w) (some (.int (kx_b (5 = z ∨ 2 = z ∨ 0 = z)))) (kv_wd g w) := by
  refine kx_ev (d := d + 1) (by decide) (Nat.le_of_ble_eq_true rfl) ?_
  refine kx_st 0 (pc' := 0) (L' := [some (.ref (14 + k)), some (.int z), none, none]) (st' := []) (h' := kv_wd g w) rfl ?_
  refine kx_st 1 (pc' := 1) (L' := [some (.ref (14 + k)), some (.int z), none, none]) (st' := [.ref (14 + k)]) (h' := kv_wd g w) rfl ?_
  refine kx_gf (i := 7) (k := 0) (v := .int 5) rfl rfl (kv_kn_h hk).1 ((kv_kn_h hk).2 _ _) (congrArg (fun z => some (Value.int z)) h0) ?_
  refine kx_st 5 (pc' := 11) (L' := [some (.ref (14 + k)), some (.int z), some (.int 5), some (.int 0)]) (st' := [.ref 1001, .int 0]) (h' := kv_wd g w) rfl ?_
  refine kx_aE (n := 7) rfl hE (by decide) ?_
  refine kx_st 1 (pc' := 15) (L' := [some (.ref (14 + k)), some (.int z), some (.int 5), some (.int 0)]) (st' := []) (h' := kv_wd g w) rfl ?_
  refine kx_st 1 (pc' := 16) (L' := [some (.ref (14 + k)), some (.int z), some (.int 5), some (.int 0)]) (st' := [.int 5]) (h' := kv_wd g w) rfl ?_
  refine kx_st 1 (pc' := 19) (L' := [some (.ref (14 + k)), some (.int z), some (.int 5), some (.int 0)]) (st' := []) (h' := kv_wd g w) rfl ?_
  refine kx_st 2 (pc' := 21) (L' := [some (.ref (14 + k)), some (.int z), some (.int 5), some (.int 0)]) (st' := [.int z, .int 5]) (h' := kv_wd g w) rfl ?_
  refine kx_bi (t := 26) rfl rfl (fun (h21 : ¬ 5 = z) => ?_) (fun (h21 : ¬ (¬ 5 = z)) => ?_)
  · refine kx_st 1 (pc' := 27) (L' := [some (.ref (14 + k)), some (.int z), some (.int 5), some (.int 0)]) (st' := [.int 5]) (h' := kv_wd g w) rfl ?_
    refine kx_call (z := 28) (as := [.int 5]) (rest := []) (v := some (.int 2)) (h1 := kv_wd g w) rfl (ev_above_5 (d := d) hE) ?_
    refine kx_st 0 (pc' := 30) (L' := [some (.ref (14 + k)), some (.int z), some (.int 5), some (.int 0)]) (st' := [.int 2]) (h' := kv_wd g w) rfl ?_
    refine kx_st 5 (pc' := 11) (L' := [some (.ref (14 + k)), some (.int z), some (.int 2), some (.int (0 + 1))]) (st' := [.ref 1001, .int (0 + 1)]) (h' := kv_wd g w) rfl ?_
    refine kx_aE (n := 7) rfl hE (by decide) ?_
    refine kx_bi (t := 37) rfl rfl (fun (h12 : 7 ≤ 0 + 1) => ?_) (fun (h12 : ¬ (7 ≤ 0 + 1)) => ?_)
    · refine kx_st 1 (pc' := 38) (L' := [some (.ref (14 + k)), some (.int z), some (.int 2), some (.int (0 + 1))]) (st' := [.int 0]) (h' := kv_wd g w) rfl ?_
      refine kx_ret (v := some (.int 0)) rfl ?_
      exact ⟨kx_l0 (by grind), rfl⟩
    · refine kx_st 0 (pc' := 15) (L' := [some (.ref (14 + k)), some (.int z), some (.int 2), some (.int (0 + 1))]) (st' := []) (h' := kv_wd g w) rfl ?_
      refine kx_st 1 (pc' := 16) (L' := [some (.ref (14 + k)), some (.int z), some (.int 2), some (.int (0 + 1))]) (st' := [.int 2]) (h' := kv_wd g w) rfl ?_
      refine kx_st 1 (pc' := 19) (L' := [some (.ref (14 + k)), some (.int z), some (.int 2), some (.int (0 + 1))]) (st' := []) (h' := kv_wd g w) rfl ?_
      refine kx_st 2 (pc' := 21) (L' := [some (.ref (14 + k)), some (.int z), some (.int 2), some (.int (0 + 1))]) (st' := [.int z, .int 2]) (h' := kv_wd g w) rfl ?_
      refine kx_bi (t := 26) rfl rfl (fun (h21_1 : ¬ 2 = z) => ?_) (fun (h21_1 : ¬ (¬ 2 = z)) => ?_)
      · refine kx_st 1 (pc' := 27) (L' := [some (.ref (14 + k)), some (.int z), some (.int 2), some (.int (0 + 1))]) (st' := [.int 2]) (h' := kv_wd g w) rfl ?_
        refine kx_call (z := 28) (as := [.int 2]) (rest := []) (v := some (.int 0)) (h1 := kv_wd g w) rfl (ev_above_2 (d := d) hE) ?_
        refine kx_st 0 (pc' := 30) (L' := [some (.ref (14 + k)), some (.int z), some (.int 2), some (.int (0 + 1))]) (st' := [.int 0]) (h' := kv_wd g w) rfl ?_
        refine kx_st 5 (pc' := 11) (L' := [some (.ref (14 + k)), some (.int z), some (.int 0), some (.int ((0 + 1) + 1))]) (st' := [.ref 1001, .int ((0 + 1) + 1)]) (h' := kv_wd g w) rfl ?_
        refine kx_aE (n := 7) rfl hE (by decide) ?_
        refine kx_bi (t := 37) rfl rfl (fun (h12_1 : 7 ≤ (0 + 1) + 1) => ?_) (fun (h12_1 : ¬ (7 ≤ (0 + 1) + 1)) => ?_)
        · refine kx_st 1 (pc' := 38) (L' := [some (.ref (14 + k)), some (.int z), some (.int 0), some (.int ((0 + 1) + 1))]) (st' := [.int 0]) (h' := kv_wd g w) rfl ?_
          refine kx_ret (v := some (.int 0)) rfl ?_
          exact ⟨kx_l0 (by grind), rfl⟩
        · refine kx_st 0 (pc' := 15) (L' := [some (.ref (14 + k)), some (.int z), some (.int 0), some (.int ((0 + 1) + 1))]) (st' := []) (h' := kv_wd g w) rfl ?_
          refine kx_st 1 (pc' := 16) (L' := [some (.ref (14 + k)), some (.int z), some (.int 0), some (.int ((0 + 1) + 1))]) (st' := [.int 0]) (h' := kv_wd g w) rfl ?_
          refine kx_st 1 (pc' := 19) (L' := [some (.ref (14 + k)), some (.int z), some (.int 0), some (.int ((0 + 1) + 1))]) (st' := []) (h' := kv_wd g w) rfl ?_
          refine kx_st 2 (pc' := 21) (L' := [some (.ref (14 + k)), some (.int z), some (.int 0), some (.int ((0 + 1) + 1))]) (st' := [.int z, .int 0]) (h' := kv_wd g w) rfl ?_
          refine kx_bi (t := 26) rfl rfl (fun (h21_2 : ¬ 0 = z) => ?_) (fun (h21_2 : ¬ (¬ 0 = z)) => ?_)
          · refine kx_st 1 (pc' := 27) (L' := [some (.ref (14 + k)), some (.int z), some (.int 0), some (.int ((0 + 1) + 1))]) (st' := [.int 0]) (h' := kv_wd g w) rfl ?_
            refine kx_call (z := 28) (as := [.int 0]) (rest := []) (v := some (.int (-1))) (h1 := kv_wd g w) rfl (ev_above_0 (d := d) hE) ?_
            refine kx_st 0 (pc' := 30) (L' := [some (.ref (14 + k)), some (.int z), some (.int 0), some (.int ((0 + 1) + 1))]) (st' := [.int (-1)]) (h' := kv_wd g w) rfl ?_
            refine kx_st 5 (pc' := 11) (L' := [some (.ref (14 + k)), some (.int z), some (.int (-1)), some (.int (((0 + 1) + 1) + 1))]) (st' := [.ref 1001, .int (((0 + 1) + 1) + 1)]) (h' := kv_wd g w) rfl ?_
            refine kx_aE (n := 7) rfl hE (by decide) ?_
            refine kx_bi (t := 37) rfl rfl (fun (h12_2 : 7 ≤ ((0 + 1) + 1) + 1) => ?_) (fun (h12_2 : ¬ (7 ≤ ((0 + 1) + 1) + 1)) => ?_)
            · refine kx_st 1 (pc' := 38) (L' := [some (.ref (14 + k)), some (.int z), some (.int (-1)), some (.int (((0 + 1) + 1) + 1))]) (st' := [.int 0]) (h' := kv_wd g w) rfl ?_
              refine kx_ret (v := some (.int 0)) rfl ?_
              exact ⟨kx_l0 (by grind), rfl⟩
            · refine kx_st 0 (pc' := 15) (L' := [some (.ref (14 + k)), some (.int z), some (.int (-1)), some (.int (((0 + 1) + 1) + 1))]) (st' := []) (h' := kv_wd g w) rfl ?_
              refine kx_st 1 (pc' := 16) (L' := [some (.ref (14 + k)), some (.int z), some (.int (-1)), some (.int (((0 + 1) + 1) + 1))]) (st' := [.int (-1)]) (h' := kv_wd g w) rfl ?_
              refine kx_st 1 (pc' := 37) (L' := [some (.ref (14 + k)), some (.int z), some (.int (-1)), some (.int (((0 + 1) + 1) + 1))]) (st' := []) (h' := kv_wd g w) rfl ?_
              refine kx_st 1 (pc' := 38) (L' := [some (.ref (14 + k)), some (.int z), some (.int (-1)), some (.int (((0 + 1) + 1) + 1))]) (st' := [.int 0]) (h' := kv_wd g w) rfl ?_
              refine kx_ret (v := some (.int 0)) rfl ?_
              exact ⟨kx_l0 (by grind), rfl⟩
          · refine kx_st 0 (pc' := 24) (L' := [some (.ref (14 + k)), some (.int z), some (.int 0), some (.int ((0 + 1) + 1))]) (st' := []) (h' := kv_wd g w) rfl ?_
            refine kx_st 1 (pc' := 25) (L' := [some (.ref (14 + k)), some (.int z), some (.int 0), some (.int ((0 + 1) + 1))]) (st' := [.int 1]) (h' := kv_wd g w) rfl ?_
            refine kx_ret (v := some (.int 1)) rfl ?_
            exact ⟨kx_l1 (by grind), rfl⟩
      · refine kx_st 0 (pc' := 24) (L' := [some (.ref (14 + k)), some (.int z), some (.int 2), some (.int (0 + 1))]) (st' := []) (h' := kv_wd g w) rfl ?_
        refine kx_st 1 (pc' := 25) (L' := [some (.ref (14 + k)), some (.int z), some (.int 2), some (.int (0 + 1))]) (st' := [.int 1]) (h' := kv_wd g w) rfl ?_
        refine kx_ret (v := some (.int 1)) rfl ?_
        exact ⟨kx_l1 (by grind), rfl⟩
  · refine kx_st 0 (pc' := 24) (L' := [some (.ref (14 + k)), some (.int z), some (.int 5), some (.int 0)]) (st' := []) (h' := kv_wd g w) rfl ?_
    refine kx_st 1 (pc' := 25) (L' := [some (.ref (14 + k)), some (.int z), some (.int 5), some (.int 0)]) (st' := [.int 1]) (h' := kv_wd g w) rfl ?_
    refine kx_ret (v := some (.int 1)) rfl ?_
    exact ⟨kx_l1 (by grind), rfl⟩
set_option maxRecDepth 100000 in
theorem ev_isOf_6 {E : kv_V} {d : Nat} {g : kv_S} {w : kv_W} (hE : E 1001 = some (0, 7, kv_KA)) (k : Nat) (hk : k < 8) (h0 : g (14 + k) 0 = 6) (z : Int32) : kv_ev E (d + 2) 29 [.ref (14 + k), .int z] (kv_wd g w) (some (.int (kx_b (6 = z ∨ 3 = z ∨ 0 = z)))) (kv_wd g w) := by
  refine kx_ev (d := d + 1) (by decide) (Nat.le_of_ble_eq_true rfl) ?_
  refine kx_st 0 (pc' := 0) (L' := [some (.ref (14 + k)), some (.int z), none, none]) (st' := []) (h' := kv_wd g w) rfl ?_
  refine kx_st 1 (pc' := 1) (L' := [some (.ref (14 + k)), some (.int z), none, none]) (st' := [.ref (14 + k)]) (h' := kv_wd g w) rfl ?_
  refine kx_gf (i := 7) (k := 0) (v := .int 6) rfl rfl (kv_kn_h hk).1 ((kv_kn_h hk).2 _ _) (congrArg (fun z => some (Value.int z)) h0) ?_
  refine kx_st 5 (pc' := 11) (L' := [some (.ref (14 + k)), some (.int z), some (.int 6), some (.int 0)]) (st' := [.ref 1001, .int 0]) (h' := kv_wd g w) rfl ?_
  refine kx_aE (n := 7) rfl hE (by decide) ?_
  refine kx_st 1 (pc' := 15) (L' := [some (.ref (14 + k)), some (.int z), some (.int 6), some (.int 0)]) (st' := []) (h' := kv_wd g w) rfl ?_
  refine kx_st 1 (pc' := 16) (L' := [some (.ref (14 + k)), some (.int z), some (.int 6), some (.int 0)]) (st' := [.int 6]) (h' := kv_wd g w) rfl ?_
  refine kx_st 1 (pc' := 19) (L' := [some (.ref (14 + k)), some (.int z), some (.int 6), some (.int 0)]) (st' := []) (h' := kv_wd g w) rfl ?_
  refine kx_st 2 (pc' := 21) (L' := [some (.ref (14 + k)), some (.int z), some (.int 6), some (.int 0)]) (st' := [.int z, .int 6]) (h' := kv_wd g w) rfl ?_
  refine kx_bi (t := 26) rfl rfl (fun (h21 : ¬ 6 = z) => ?_) (fun (h21 : ¬ (¬ 6 = z)) => ?_)
  · refine kx_st 1 (pc' := 27) (L' := [some (.ref (14 + k)), some (.int z), some (.int 6), some (.int 0)]) (st' := [.int 6]) (h' := kv_wd g w) rfl ?_
    refine kx_call (z := 28) (as := [.int 6]) (rest := []) (v := some (.int 3)) (h1 := kv_wd g w) rfl (ev_above_6 (d := d) hE) ?_
    refine kx_st 0 (pc' := 30) (L' := [some (.ref (14 + k)), some (.int z), some (.int 6), some (.int 0)]) (st' := [.int 3]) (h' := kv_wd g w) rfl ?_
    refine kx_st 5 (pc' := 11) (L' := [some (.ref (14 + k)), some (.int z), some (.int 3), some (.int (0 + 1))]) (st' := [.ref 1001, .int (0 + 1)]) (h' := kv_wd g w) rfl ?_
    refine kx_aE (n := 7) rfl hE (by decide) ?_
    refine kx_bi (t := 37) rfl rfl (fun (h12 : 7 ≤ 0 + 1) => ?_) (fun (h12 : ¬ (7 ≤ 0 + 1)) => ?_)
    · refine kx_st 1 (pc' := 38) (L' := [some (.ref (14 + k)), some (.int z), some (.int 3), some (.int (0 + 1))]) (st' := [.int 0]) (h' := kv_wd g w) rfl ?_
      refine kx_ret (v := some (.int 0)) rfl ?_
      exact ⟨kx_l0 (by grind), rfl⟩
    · refine kx_st 0 (pc' := 15) (L' := [some (.ref (14 + k)), some (.int z), some (.int 3), some (.int (0 + 1))]) (st' := []) (h' := kv_wd g w) rfl ?_
      refine kx_st 1 (pc' := 16) (L' := [some (.ref (14 + k)), some (.int z), some (.int 3), some (.int (0 + 1))]) (st' := [.int 3]) (h' := kv_wd g w) rfl ?_
      refine kx_st 1 (pc' := 19) (L' := [some (.ref (14 + k)), some (.int z), some (.int 3), some (.int (0 + 1))]) (st' := []) (h' := kv_wd g w) rfl ?_
      refine kx_st 2 (pc' := 21) (L' := [some (.ref (14 + k)), some (.int z), some (.int 3), some (.int (0 + 1))]) (st' := [.int z, .int 3]) (h' := kv_wd g w) rfl ?_
      refine kx_bi (t := 26) rfl rfl (fun (h21_1 : ¬ 3 = z) => ?_) (fun (h21_1 : ¬ (¬ 3 = z)) => ?_)
      · refine kx_st 1 (pc' := 27) (L' := [some (.ref (14 + k)), some (.int z), some (.int 3), some (.int (0 + 1))]) (st' := [.int 3]) (h' := kv_wd g w) rfl ?_
        refine kx_call (z := 28) (as := [.int 3]) (rest := []) (v := some (.int 0)) (h1 := kv_wd g w) rfl (ev_above_3 (d := d) hE) ?_
        refine kx_st 0 (pc' := 30) (L' := [some (.ref (14 + k)), some (.int z), some (.int 3), some (.int (0 + 1))]) (st' := [.int 0]) (h' := kv_wd g w) rfl ?_
        refine kx_st 5 (pc' := 11) (L' := [some (.ref (14 + k)), some (.int z), some (.int 0), some (.int ((0 + 1) + 1))]) (st' := [.ref 1001, .int ((0 + 1) + 1)]) (h' := kv_wd g w) rfl ?_
        refine kx_aE (n := 7) rfl hE (by decide) ?_
        refine kx_bi (t := 37) rfl rfl (fun (h12_1 : 7 ≤ (0 + 1) + 1) => ?_) (fun (h12_1 : ¬ (7 ≤ (0 + 1) + 1)) => ?_)
        · refine kx_st 1 (pc' := 38) (L' := [some (.ref (14 + k)), some (.int z), some (.int 0), some (.int ((0 + 1) + 1))]) (st' := [.int 0]) (h' := kv_wd g w) rfl ?_
          refine kx_ret (v := some (.int 0)) rfl ?_
          exact ⟨kx_l0 (by grind), rfl⟩
        · refine kx_st 0 (pc' := 15) (L' := [some (.ref (14 + k)), some (.int z), some (.int 0), some (.int ((0 + 1) + 1))]) (st' := []) (h' := kv_wd g w) rfl ?_
          refine kx_st 1 (pc' := 16) (L' := [some (.ref (14 + k)), some (.int z), some (.int 0), some (.int ((0 + 1) + 1))]) (st' := [.int 0]) (h' := kv_wd g w) rfl ?_
          refine kx_st 1 (pc' := 19) (L' := [some (.ref (14 + k)), some (.int z), some (.int 0), some (.int ((0 + 1) + 1))]) (st' := []) (h' := kv_wd g w) rfl ?_
          refine kx_st 2 (pc' := 21) (L' := [some (.ref (14 + k)), some (.int z), some (.int 0), some (.int ((0 + 1) + 1))]) (st' := [.int z, .int 0]) (h' := kv_wd g w) rfl ?_
          refine kx_bi (t := 26) rfl rfl (fun (h21_2 : ¬ 0 = z) => ?_) (fun (h21_2 : ¬ (¬ 0 = z)) => ?_)
          · refine kx_st 1 (pc' := 27) (L' := [some (.ref (14 + k)), some (.int z), some (.int 0), some (.int ((0 + 1) + 1))]) (st' := [.int 0]) (h' := kv_wd g w) rfl ?_
            refine kx_call (z := 28) (as := [.int 0]) (rest := []) (v := some (.int (-1))) (h1 := kv_wd g w) rfl (ev_above_0 (d := d) hE) ?_
            refine kx_st 0 (pc' := 30) (L' := [some (.ref (14 + k)), some (.int z), some (.int 0), some (.int ((0 + 1) + 1))]) (st' := [.int (-1)]) (h' := kv_wd g w) rfl ?_
            refine kx_st 5 (pc' := 11) (L' := [some (.ref (14 + k)), some (.int z), some (.int (-1)), some (.int (((0 + 1) + 1) + 1))]) (st' := [.ref 1001, .int (((0 + 1) + 1) + 1)]) (h' := kv_wd g w) rfl ?_
            refine kx_aE (n := 7) rfl hE (by decide) ?_
            refine kx_bi (t := 37) rfl rfl (fun (h12_2 : 7 ≤ ((0 + 1) + 1) + 1) => ?_) (fun (h12_2 : ¬ (7 ≤ ((0 + 1) + 1) + 1)) => ?_)
            · refine kx_st 1 (pc' := 38) (L' := [some (.ref (14 + k)), some (.int z), some (.int (-1)), some (.int (((0 + 1) + 1) + 1))]) (st' := [.int 0]) (h' := kv_wd g w) rfl ?_
              refine kx_ret (v := some (.int 0)) rfl ?_
              exact ⟨kx_l0 (by grind), rfl⟩
            · refine kx_st 0 (pc' := 15) (L' := [some (.ref (14 + k)), some (.int z), some (.int (-1)), some (.int (((0 + 1) + 1) + 1))]) (st' := []) (h' := kv_wd g w) rfl ?_
              refine kx_st 1 (pc' := 16) (L' := [some (.ref (14 + k)), some (.int z), some (.int (-1)), some (.int (((0 + 1) + 1) + 1))]) (st' := [.int (-1)]) (h' := kv_wd g w) rfl ?_
              refine kx_st 1 (pc' := 37) (L' := [some (.ref (14 + k)), some (.int z), some (.int (-1)), some (.int (((0 + 1) + 1) + 1))]) (st' := []) (h' := kv_wd g w) rfl ?_
              refine kx_st 1 (pc' := 38) (L' := [some (.ref (14 + k)), some (.int z), some (.int (-1)), some (.int (((0 + 1) + 1) + 1))]) (st' := [.int 0]) (h' := kv_wd g w) rfl ?_
              refine kx_ret (v := some (.int 0)) rfl ?_
              exact ⟨kx_l0 (by grind), rfl⟩
          · refine kx_st 0 (pc' := 24) (L' := [some (.ref (14 + k)), some (.int z), some (.int 0), some (.int ((0 + 1) + 1))]) (st' := []) (h' := kv_wd g w) rfl ?_
            refine kx_st 1 (pc' := 25) (L' := [some (.ref (14 + k)), some (.int z), some (.int 0), some (.int ((0 + 1) + 1))]) (st' := [.int 1]) (h' := kv_wd g w) rfl ?_
            refine kx_ret (v := some (.int 1)) rfl ?_
            exact ⟨kx_l1 (by grind), rfl⟩
      · refine kx_st 0 (pc' := 24) (L' := [some (.ref (14 + k)), some (.int z), some (.int 3), some (.int (0 + 1))]) (st' := []) (h' := kv_wd g w) rfl ?_
        refine kx_st 1 (pc' := 25) (L' := [some (.ref (14 + k)), some (.int z), some (.int 3), some (.int (0 + 1))]) (st' := [.int 1]) (h' := kv_wd g w) rfl ?_
        refine kx_ret (v := some (.int 1)) rfl ?_
        exact ⟨kx_l1 (by grind), rfl⟩
  · refine kx_st 0 (pc' := 24) (L' := [some (.ref (14 + k)), some (.int z), some (.int 6), some (.int 0)]) (st' := []) (h' := kv_wd g w) rfl ?_
    refine kx_st 1 (pc' := 25) (L' := [some (.ref (14 + k)), some (.int z), some (.int 6), some (.int 0)]) (st' := [.int 1]) (h' := kv_wd g w) rfl ?_
    refine kx_ret (v := some (.int 1)) rfl ?_
    exact ⟨kx_l1 (by grind), rfl⟩
section KP14
variable {E : kv_V} {lr : kx_LR}
set_option maxRecDepth 100000 in
theorem pr_as (hE : E 1001 = some (0, 7, kv_KA)) (a b : Int32) : kx_ok2 E (kx_Rl lr) 89 154 [.int a, .int b] := by
  intro g w i hR hi
  have hR0 := hR
  obtain ⟨q, cu, ⟨H1, H2, H3, H4, H5, hz, l0, l1⟩, im, sh, tr, er⟩ := id hR
  obtain ⟨s, t, m, ⟨a1, a2, a3, a4⟩, ⟨b1, b2⟩, ⟨c1, c2⟩, ⟨d1, d2⟩, hk⟩ := id H1
  by_cases hv : 0 ≤ a ∧ a < nI m
  · obtain ⟨k, hkm, rfl⟩ := kx_nIlt hv.1 hv.2 (by omega)
    have hk8 : k < 8 := by omega
    have hkn : nI k < g 1 4 := by rw [d1]; exact nI_lt hkm (by omega)
    have kf : ∀ c, c < 9 → g (14 + k) c = g 66 (26 + 9 * k + c) := fun c hc => kx_knf (lr := lr) hk a4 hkm hc
    obtain ⟨-, q2, q3, q4, q5, q6, q7, q8, q9⟩ := hk k hkm
    dsimp only at q2 q3 q4 q5 q6 q7 q8 q9
    by_cases hw : 0 ≤ b ∧ b ≤ 6
    · obtain ⟨x, hx, hx0⟩ := q2
      rcases (show x = 0 ∨ x = 1 ∨ x = 2 ∨ x = 3 ∨ x = 4 ∨ x = 5 ∨ x = 6 by omega) with rfl | rfl | rfl | rfl | rfl | rfl | rfl
      · refine kx_two (by decide) (Nat.le_of_ble_eq_true rfl) (by decide) (Nat.le_of_ble_eq_true rfl) ?_
        refine kx_st 0 (pc' := 0) (L' := [some (.ref 0), some (.int (nI k)), some (.int b), none]) (st' := []) (h' := kv_wd g w) rfl ?_
        refine kx_st 3 (pc' := 5) (L' := [some (.ref 0), some (.int (nI k)), some (.int b), none]) (st' := [.int (nI k), .ref 1]) (h' := kv_wd g w) rfl ?_
        refine kx_call (z := 17) (as := [.ref 1, .int (nI k)]) (rest := []) (v := some (.ref (14 + k))) (h1 := kv_wd g w) rfl (ev_knotAt (d := 898) (g := g) q k hk8 hkn) ?_
        refine kx_st 0 (pc' := 8) (L' := [some (.ref 0), some (.int (nI k)), some (.int b), none]) (st' := [.ref (14 + k)]) (h' := kv_wd g w) rfl ?_
        refine kx_st 2 (pc' := 10) (L' := [some (.ref 0), some (.int (nI k)), some (.int b), some (.ref (14 + k))]) (st' := [.ref (14 + k)]) (h' := kv_wd g w) rfl ?_
        refine kx_st 1 (pc' := 13) (L' := [some (.ref 0), some (.int (nI k)), some (.int b), some (.ref (14 + k))]) (st' := []) (h' := kv_wd g w) rfl ?_
        refine kx_st 2 (pc' := 16) (L' := [some (.ref 0), some (.int (nI k)), some (.int b), some (.ref (14 + k))]) (st' := [.int 6, .int b]) (h' := kv_wd g w) rfl ?_
        refine kx_call (z := 124) (as := [.int b, .int 6]) (rest := []) (v := some (.int (kx_b (0 ≤ b ∧ b ≤ 6)))) (h1 := kv_wd g w) rfl (ev_within (d := 898) b 6) ?_
        refine kx_st 0 (pc' := 19) (L' := [some (.ref 0), some (.int (nI k)), some (.int b), some (.ref (14 + k))]) (st' := [.int (kx_b (0 ≤ b ∧ b ≤ 6))]) (h' := kv_wd g w) rfl ?_
        refine kx_bn (t := 28) rfl rfl (fun (h19 : (0 ≤ b ∧ b ≤ 6)) => ?_) (fun (h19 : ¬ (0 ≤ b ∧ b ≤ 6)) => ?_)
        · refine kx_st 2 (pc' := 30) (L' := [some (.ref 0), some (.int (nI k)), some (.int b), some (.ref (14 + k))]) (st' := [.int b, .ref (14 + k)]) (h' := kv_wd g w) rfl ?_
          refine kx_call (z := 29) (as := [.ref (14 + k), .int b]) (rest := []) (v := some (.int (kx_b (0 = b)))) (h1 := kv_wd g w) (kx_cv (b := 14 + k) (A := [.int b]) (rest := []) rfl rfl rfl rfl (Nat.le_of_ble_eq_true rfl) (kv_kn_h hk8).1 ((kv_kn_h hk8).2 _ _)) (ev_isOf_0 (d := 897) hE k hk8 ((kf 0 (by omega)).trans hx0) b) ?_
          refine kx_st 0 (pc' := 33) (L' := [some (.ref 0), some (.int (nI k)), some (.int b), some (.ref (14 + k))]) (st' := [.int (kx_b (0 = b))]) (h' := kv_wd g w) rfl ?_
          refine kx_be (t := 43) rfl rfl (fun (h33 : ¬ (0 = b)) => ?_) (fun (h33 : (0 = b)) => ?_)
          · refine kx_st 2 (pc' := 45) (L' := [some (.ref 0), some (.int (nI k)), some (.int b), some (.ref (14 + k))]) (st' := [.int 5, .ref 0]) (h' := kv_wd g w) rfl ?_
            refine kx_call (z := 123) (as := [.ref 0, .int 5]) (rest := []) (v := some (.int (-1000000000 - nI 5))) (h1 := kv_wd (kv_up g 64 5 (g 64 5 + 1)) w) rfl (ev_error (d := 898) 5 (by decide) (by decide)) ?_
            refine kx_st 0 (pc' := 48) (L' := [some (.ref 0), some (.int (nI k)), some (.int b), some (.ref (14 + k))]) (st' := [.int (-1000000000 - nI 5)]) (h' := kv_wd (kv_up g 64 5 (g 64 5 + 1)) w) rfl ?_
            refine kx_ret (v := some (.int (-1000000000 - nI 5))) rfl ?_
            refine ⟨_, _, _, rfl, rfl, ?_⟩
            refine kx_st 0 (pc' := 0) (L' := [some (.ref 65), some (.int (nI k)), some (.int b), none]) (st' := []) (h' := kv_wd (kv_up g 64 5 (g 64 5 + 1)) w) rfl ?_
            refine kx_st 2 (pc' := 2) (L' := [some (.ref 65), some (.int (nI k)), some (.int b), none]) (st' := [.int (nI k), .ref 65]) (h' := kv_wd (kv_up g 64 5 (g 64 5 + 1)) w) rfl ?_
            refine kx_call (z := 139) (as := [.ref 65, .int (nI k)]) (rest := []) (v := some (.int (kx_b (0 ≤ nI k ∧ nI k < nI m)))) (h1 := kv_wd (kv_up g 64 5 (g 64 5 + 1)) w) rfl (ev_mKnotS (d := 897) (g := kv_up g 64 5 (g 64 5 + 1)) (s := m) (by first | exact d2 | (rw [kv_up_ne (by omega)]; exact d2)) a4 (nI k)) ?_
            refine kx_st 0 (pc' := 5) (L' := [some (.ref 65), some (.int (nI k)), some (.int b), none]) (st' := [.int (kx_b (0 ≤ nI k ∧ nI k < nI m))]) (h' := kv_wd (kv_up g 64 5 (g 64 5 + 1)) w) rfl ?_
            refine kx_be (t := 18) rfl rfl (fun (m5 : ¬ (0 ≤ nI k ∧ nI k < nI m)) => ?_) (fun (m5 : (0 ≤ nI k ∧ nI k < nI m)) => ?_)
            · exact absurd hv m5
            · refine kx_st 0 (pc' := 8) (L' := [some (.ref 65), some (.int (nI k)), some (.int b), none]) (st' := []) (h' := kv_wd (kv_up g 64 5 (g 64 5 + 1)) w) rfl ?_
              refine kx_st 3 (pc' := 12) (L' := [some (.ref 65), some (.int (nI k)), some (.int b), none]) (st' := [.int 6, .int 0, .int b]) (h' := kv_wd (kv_up g 64 5 (g 64 5 + 1)) w) rfl ?_
              refine kx_call (z := 130) (as := [.int b, .int 0, .int 6]) (rest := []) (v := some (.int (kx_b (0 ≤ b ∧ b ≤ 6)))) (h1 := kv_wd (kv_up g 64 5 (g 64 5 + 1)) w) rfl (ev_in (d := 898) b 0 6) ?_
              refine kx_st 0 (pc' := 15) (L' := [some (.ref 65), some (.int (nI k)), some (.int b), none]) (st' := [.int (kx_b (0 ≤ b ∧ b ≤ 6))]) (h' := kv_wd (kv_up g 64 5 (g 64 5 + 1)) w) rfl ?_
              refine kx_bn (t := 25) rfl rfl (fun (m15 : (0 ≤ b ∧ b ≤ 6)) => ?_) (fun (m15 : ¬ (0 ≤ b ∧ b ≤ 6)) => ?_)
              · refine kx_st 3 (pc' := 28) (L' := [some (.ref 65), some (.int (nI k)), some (.int b), none]) (st' := [.int 0, .int (nI k), .ref 65]) (h' := kv_wd (kv_up g 64 5 (g 64 5 + 1)) w) rfl ?_
                refine kx_call (z := 136) (as := [.ref 65, .int (nI k), .int 0]) (rest := []) (v := some (.int 0)) (h1 := kv_wd (kv_up g 64 5 (g 64 5 + 1)) w) rfl (by have h_ := ev_its (E := E) (d := 898) (g := kv_up g 64 5 (g 64 5 + 1)) (w := w) k 0 (by omega); rw [show (kv_up g 64 5 (g 64 5 + 1)) 66 (26 + 9 * k + 0) = 0 from hx0] at h_; exact h_) ?_
                refine kx_st 0 (pc' := 31) (L' := [some (.ref 65), some (.int (nI k)), some (.int b), none]) (st' := [.int 0]) (h' := kv_wd (kv_up g 64 5 (g 64 5 + 1)) w) rfl ?_
                refine kx_st 2 (pc' := 33) (L' := [some (.ref 65), some (.int (nI k)), some (.int b), some (.int 0)]) (st' := [.int 0]) (h' := kv_wd (kv_up g 64 5 (g 64 5 + 1)) w) rfl ?_
                refine kx_st 1 (pc' := 36) (L' := [some (.ref 65), some (.int (nI k)), some (.int b), some (.int 0)]) (st' := []) (h' := kv_wd (kv_up g 64 5 (g 64 5 + 1)) w) rfl ?_
                refine kx_st 2 (pc' := 38) (L' := [some (.ref 65), some (.int (nI k)), some (.int b), some (.int 0)]) (st' := [.int b, .int 0]) (h' := kv_wd (kv_up g 64 5 (g 64 5 + 1)) w) rfl ?_
                refine kx_bi (t := 49) rfl rfl (fun (m38 : 0 = b) => ?_) (fun (m38 : ¬ (0 = b)) => ?_)
                · exact absurd m38 h33
                · refine kx_st 0 (pc' := 41) (L' := [some (.ref 65), some (.int (nI k)), some (.int b), some (.int 0)]) (st' := []) (h' := kv_wd (kv_up g 64 5 (g 64 5 + 1)) w) rfl ?_
                  refine kx_st 1 (pc' := 42) (L' := [some (.ref 65), some (.int (nI k)), some (.int b), some (.int 0)]) (st' := [.int 0]) (h' := kv_wd (kv_up g 64 5 (g 64 5 + 1)) w) rfl ?_
                  refine kx_call (z := 153) (as := [.int 0]) (rest := []) (v := some (.int (-1))) (h1 := kv_wd (kv_up g 64 5 (g 64 5 + 1)) w) rfl (ev_mabove_0 (d := 898)) ?_
                  refine kx_st 0 (pc' := 45) (L' := [some (.ref 65), some (.int (nI k)), some (.int b), some (.int 0)]) (st' := [.int (-1)]) (h' := kv_wd (kv_up g 64 5 (g 64 5 + 1)) w) rfl ?_
                  refine kx_st 3 (pc' := 33) (L' := [some (.ref 65), some (.int (nI k)), some (.int b), some (.int (-1))]) (st' := [.int (-1)]) (h' := kv_wd (kv_up g 64 5 (g 64 5 + 1)) w) rfl ?_
                  refine kx_st 1 (pc' := 49) (L' := [some (.ref 65), some (.int (nI k)), some (.int b), some (.int (-1))]) (st' := []) (h' := kv_wd (kv_up g 64 5 (g 64 5 + 1)) w) rfl ?_
                  refine kx_st 1 (pc' := 50) (L' := [some (.ref 65), some (.int (nI k)), some (.int b), some (.int (-1))]) (st' := [.int (-1)]) (h' := kv_wd (kv_up g 64 5 (g 64 5 + 1)) w) rfl ?_
                  refine kx_st 1 (pc' := 53) (L' := [some (.ref 65), some (.int (nI k)), some (.int b), some (.int (-1))]) (st' := []) (h' := kv_wd (kv_up g 64 5 (g 64 5 + 1)) w) rfl ?_
                  refine kx_st 2 (pc' := 56) (L' := [some (.ref 65), some (.int (nI k)), some (.int b), some (.int (-1))]) (st' := [.int (-1000000005), .ref 65]) (h' := kv_wd (kv_up g 64 5 (g 64 5 + 1)) w) rfl ?_
                  refine kx_call (z := 131) (as := [.ref 65, .int (-1000000005)]) (rest := []) (v := some (.int (-1000000005))) (h1 := kv_wd (kv_up (kv_up g 64 5 (g 64 5 + 1)) 70 5 ((kv_up g 64 5 (g 64 5 + 1)) 70 5 + 1)) w) rfl (ev_errs (d := 898) (-1000000005) 5 (by decide) (by decide)) ?_
                  refine kx_st 0 (pc' := 59) (L' := [some (.ref 65), some (.int (nI k)), some (.int b), some (.int (-1))]) (st' := [.int (-1000000005)]) (h' := kv_wd (kv_up (kv_up g 64 5 (g 64 5 + 1)) 70 5 ((kv_up g 64 5 (g 64 5 + 1)) 70 5 + 1)) w) rfl ?_
                  refine kx_st 1 (pc' := 68) (L' := [some (.ref 65), some (.int (nI k)), some (.int b), some (.int (-1))]) (st' := [.int (-1000000005)]) (h' := kv_wd (kv_up (kv_up g 64 5 (g 64 5 + 1)) 70 5 ((kv_up g 64 5 (g 64 5 + 1)) 70 5 + 1)) w) rfl ?_
                  refine kx_ret (v := some (.int (-1000000005))) rfl ?_
                  exact ⟨rfl, _, _, rfl, kx_Rl_e hR⟩
              · exact absurd hw m15
          · refine kx_st 0 (pc' := 36) (L' := [some (.ref 0), some (.int (nI k)), some (.int b), some (.ref (14 + k))]) (st' := []) (h' := kv_wd g w) rfl ?_
            refine kx_st 1 (pc' := 37) (L' := [some (.ref 0), some (.int (nI k)), some (.int b), some (.ref (14 + k))]) (st' := [.ref (14 + k)]) (h' := kv_wd g w) rfl ?_
            refine kx_gf (i := 146) (k := 1) (v := .int (g (14 + k) 1)) rfl rfl (kv_kn_h hk8).1 ((kv_kn_h hk8).2 _ _) rfl ?_
            refine kx_st 1 (pc' := 48) (L' := [some (.ref 0), some (.int (nI k)), some (.int b), some (.ref (14 + k))]) (st' := [.int (g (14 + k) 1)]) (h' := kv_wd g w) rfl ?_
            refine kx_ret (v := some (.int (g (14 + k) 1))) rfl ?_
            refine ⟨_, _, _, rfl, rfl, ?_⟩
            refine kx_st 0 (pc' := 0) (L' := [some (.ref 65), some (.int (nI k)), some (.int b), none]) (st' := []) (h' := kv_wd g w) rfl ?_
            refine kx_st 2 (pc' := 2) (L' := [some (.ref 65), some (.int (nI k)), some (.int b), none]) (st' := [.int (nI k), .ref 65]) (h' := kv_wd g w) rfl ?_
            refine kx_call (z := 139) (as := [.ref 65, .int (nI k)]) (rest := []) (v := some (.int (kx_b (0 ≤ nI k ∧ nI k < nI m)))) (h1 := kv_wd g w) rfl (ev_mKnotS (d := 897) (g := g) (s := m) (by first | exact d2 | (rw [kv_up_ne (by omega)]; exact d2)) a4 (nI k)) ?_
            refine kx_st 0 (pc' := 5) (L' := [some (.ref 65), some (.int (nI k)), some (.int b), none]) (st' := [.int (kx_b (0 ≤ nI k ∧ nI k < nI m))]) (h' := kv_wd g w) rfl ?_
            refine kx_be (t := 18) rfl rfl (fun (m5 : ¬ (0 ≤ nI k ∧ nI k < nI m)) => ?_) (fun (m5 : (0 ≤ nI k ∧ nI k < nI m)) => ?_)
            · exact absurd hv m5
            · refine kx_st 0 (pc' := 8) (L' := [some (.ref 65), some (.int (nI k)), some (.int b), none]) (st' := []) (h' := kv_wd g w) rfl ?_
              refine kx_st 3 (pc' := 12) (L' := [some (.ref 65), some (.int (nI k)), some (.int b), none]) (st' := [.int 6, .int 0, .int b]) (h' := kv_wd g w) rfl ?_
              refine kx_call (z := 130) (as := [.int b, .int 0, .int 6]) (rest := []) (v := some (.int (kx_b (0 ≤ b ∧ b ≤ 6)))) (h1 := kv_wd g w) rfl (ev_in (d := 898) b 0 6) ?_
              refine kx_st 0 (pc' := 15) (L' := [some (.ref 65), some (.int (nI k)), some (.int b), none]) (st' := [.int (kx_b (0 ≤ b ∧ b ≤ 6))]) (h' := kv_wd g w) rfl ?_
              refine kx_bn (t := 25) rfl rfl (fun (m15 : (0 ≤ b ∧ b ≤ 6)) => ?_) (fun (m15 : ¬ (0 ≤ b ∧ b ≤ 6)) => ?_)
              · refine kx_st 3 (pc' := 28) (L' := [some (.ref 65), some (.int (nI k)), some (.int b), none]) (st' := [.int 0, .int (nI k), .ref 65]) (h' := kv_wd g w) rfl ?_
                refine kx_call (z := 136) (as := [.ref 65, .int (nI k), .int 0]) (rest := []) (v := some (.int 0)) (h1 := kv_wd g w) rfl (by have h_ := ev_its (E := E) (d := 898) (g := g) (w := w) k 0 (by omega); rw [show g 66 (26 + 9 * k + 0) = 0 from hx0] at h_; exact h_) ?_
                refine kx_st 0 (pc' := 31) (L' := [some (.ref 65), some (.int (nI k)), some (.int b), none]) (st' := [.int 0]) (h' := kv_wd g w) rfl ?_
                refine kx_st 2 (pc' := 33) (L' := [some (.ref 65), some (.int (nI k)), some (.int b), some (.int 0)]) (st' := [.int 0]) (h' := kv_wd g w) rfl ?_
                refine kx_st 1 (pc' := 36) (L' := [some (.ref 65), some (.int (nI k)), some (.int b), some (.int 0)]) (st' := []) (h' := kv_wd g w) rfl ?_
                refine kx_st 2 (pc' := 38) (L' := [some (.ref 65), some (.int (nI k)), some (.int b), some (.int 0)]) (st' := [.int b, .int 0]) (h' := kv_wd g w) rfl ?_
                refine kx_bi (t := 49) rfl rfl (fun (m38 : 0 = b) => ?_) (fun (m38 : ¬ (0 = b)) => ?_)
                · refine kx_st 1 (pc' := 50) (L' := [some (.ref 65), some (.int (nI k)), some (.int b), some (.int 0)]) (st' := [.int 0]) (h' := kv_wd g w) rfl ?_
                  refine kx_st 1 (pc' := 62) (L' := [some (.ref 65), some (.int (nI k)), some (.int b), some (.int 0)]) (st' := []) (h' := kv_wd g w) rfl ?_
                  refine kx_st 3 (pc' := 65) (L' := [some (.ref 65), some (.int (nI k)), some (.int b), some (.int 0)]) (st' := [.int 1, .int (nI k), .ref 65]) (h' := kv_wd g w) rfl ?_
                  refine kx_call (z := 136) (as := [.ref 65, .int (nI k), .int 1]) (rest := []) (v := some (.int (g 66 (26 + 9 * k + 1)))) (h1 := kv_wd g w) rfl (ev_its (d := 898) k 1 (by omega)) ?_
                  refine kx_st 0 (pc' := 68) (L' := [some (.ref 65), some (.int (nI k)), some (.int b), some (.int 0)]) (st' := [.int (g 66 (26 + 9 * k + 1))]) (h' := kv_wd g w) rfl ?_
                  refine kx_ret (v := some (.int (g 66 (26 + 9 * k + 1)))) rfl ?_
                  exact ⟨congrArg (fun z => some (Value.int z)) (kf 1 (by omega)).symm, _, _, rfl, kx_Rl_skip lr g w i hR⟩
                · exact absurd h33 m38
              · exact absurd hw m15
        · exact absurd hw h19
      · refine kx_two (by decide) (Nat.le_of_ble_eq_true rfl) (by decide) (Nat.le_of_ble_eq_true rfl) ?_
        refine kx_st 0 (pc' := 0) (L' := [some (.ref 0), some (.int (nI k)), some (.int b), none]) (st' := []) (h' := kv_wd g w) rfl ?_
        refine kx_st 3 (pc' := 5) (L' := [some (.ref 0), some (.int (nI k)), some (.int b), none]) (st' := [.int (nI k), .ref 1]) (h' := kv_wd g w) rfl ?_
        refine kx_call (z := 17) (as := [.ref 1, .int (nI k)]) (rest := []) (v := some (.ref (14 + k))) (h1 := kv_wd g w) rfl (ev_knotAt (d := 898) (g := g) q k hk8 hkn) ?_
        refine kx_st 0 (pc' := 8) (L' := [some (.ref 0), some (.int (nI k)), some (.int b), none]) (st' := [.ref (14 + k)]) (h' := kv_wd g w) rfl ?_
        refine kx_st 2 (pc' := 10) (L' := [some (.ref 0), some (.int (nI k)), some (.int b), some (.ref (14 + k))]) (st' := [.ref (14 + k)]) (h' := kv_wd g w) rfl ?_
        refine kx_st 1 (pc' := 13) (L' := [some (.ref 0), some (.int (nI k)), some (.int b), some (.ref (14 + k))]) (st' := []) (h' := kv_wd g w) rfl ?_
        refine kx_st 2 (pc' := 16) (L' := [some (.ref 0), some (.int (nI k)), some (.int b), some (.ref (14 + k))]) (st' := [.int 6, .int b]) (h' := kv_wd g w) rfl ?_
        refine kx_call (z := 124) (as := [.int b, .int 6]) (rest := []) (v := some (.int (kx_b (0 ≤ b ∧ b ≤ 6)))) (h1 := kv_wd g w) rfl (ev_within (d := 898) b 6) ?_
        refine kx_st 0 (pc' := 19) (L' := [some (.ref 0), some (.int (nI k)), some (.int b), some (.ref (14 + k))]) (st' := [.int (kx_b (0 ≤ b ∧ b ≤ 6))]) (h' := kv_wd g w) rfl ?_
        refine kx_bn (t := 28) rfl rfl (fun (h19 : (0 ≤ b ∧ b ≤ 6)) => ?_) (fun (h19 : ¬ (0 ≤ b ∧ b ≤ 6)) => ?_)
        · refine kx_st 2 (pc' := 30) (L' := [some (.ref 0), some (.int (nI k)), some (.int b), some (.ref (14 + k))]) (st' := [.int b, .ref (14 + k)]) (h' := kv_wd g w) rfl ?_
          refine kx_call (z := 29) (as := [.ref (14 + k), .int b]) (rest := []) (v := some (.int (kx_b (1 = b ∨ 0 = b)))) (h1 := kv_wd g w) (kx_cv (b := 14 + k) (A := [.int b]) (rest := []) rfl rfl rfl rfl (Nat.le_of_ble_eq_true rfl) (kv_kn_h hk8).1 ((kv_kn_h hk8).2 _ _)) (ev_isOf_1 (d := 897) hE k hk8 ((kf 0 (by omega)).trans hx0) b) ?_
          refine kx_st 0 (pc' := 33) (L' := [some (.ref 0), some (.int (nI k)), some (.int b), some (.ref (14 + k))]) (st' := [.int (kx_b (1 = b ∨ 0 = b))]) (h' := kv_wd g w) rfl ?_
          refine kx_be (t := 43) rfl rfl (fun (h33 : ¬ (1 = b ∨ 0 = b)) => ?_) (fun (h33 : (1 = b ∨ 0 = b)) => ?_)
          · refine kx_st 2 (pc' := 45) (L' := [some (.ref 0), some (.int (nI k)), some (.int b), some (.ref (14 + k))]) (st' := [.int 5, .ref 0]) (h' := kv_wd g w) rfl ?_
            refine kx_call (z := 123) (as := [.ref 0, .int 5]) (rest := []) (v := some (.int (-1000000000 - nI 5))) (h1 := kv_wd (kv_up g 64 5 (g 64 5 + 1)) w) rfl (ev_error (d := 898) 5 (by decide) (by decide)) ?_
            refine kx_st 0 (pc' := 48) (L' := [some (.ref 0), some (.int (nI k)), some (.int b), some (.ref (14 + k))]) (st' := [.int (-1000000000 - nI 5)]) (h' := kv_wd (kv_up g 64 5 (g 64 5 + 1)) w) rfl ?_
            refine kx_ret (v := some (.int (-1000000000 - nI 5))) rfl ?_
            refine ⟨_, _, _, rfl, rfl, ?_⟩
            refine kx_st 0 (pc' := 0) (L' := [some (.ref 65), some (.int (nI k)), some (.int b), none]) (st' := []) (h' := kv_wd (kv_up g 64 5 (g 64 5 + 1)) w) rfl ?_
            refine kx_st 2 (pc' := 2) (L' := [some (.ref 65), some (.int (nI k)), some (.int b), none]) (st' := [.int (nI k), .ref 65]) (h' := kv_wd (kv_up g 64 5 (g 64 5 + 1)) w) rfl ?_
            refine kx_call (z := 139) (as := [.ref 65, .int (nI k)]) (rest := []) (v := some (.int (kx_b (0 ≤ nI k ∧ nI k < nI m)))) (h1 := kv_wd (kv_up g 64 5 (g 64 5 + 1)) w) rfl (ev_mKnotS (d := 897) (g := kv_up g 64 5 (g 64 5 + 1)) (s := m) (by first | exact d2 | (rw [kv_up_ne (by omega)]; exact d2)) a4 (nI k)) ?_
            refine kx_st 0 (pc' := 5) (L' := [some (.ref 65), some (.int (nI k)), some (.int b), none]) (st' := [.int (kx_b (0 ≤ nI k ∧ nI k < nI m))]) (h' := kv_wd (kv_up g 64 5 (g 64 5 + 1)) w) rfl ?_
            refine kx_be (t := 18) rfl rfl (fun (m5 : ¬ (0 ≤ nI k ∧ nI k < nI m)) => ?_) (fun (m5 : (0 ≤ nI k ∧ nI k < nI m)) => ?_)
            · exact absurd hv m5
            · refine kx_st 0 (pc' := 8) (L' := [some (.ref 65), some (.int (nI k)), some (.int b), none]) (st' := []) (h' := kv_wd (kv_up g 64 5 (g 64 5 + 1)) w) rfl ?_
              refine kx_st 3 (pc' := 12) (L' := [some (.ref 65), some (.int (nI k)), some (.int b), none]) (st' := [.int 6, .int 0, .int b]) (h' := kv_wd (kv_up g 64 5 (g 64 5 + 1)) w) rfl ?_
              refine kx_call (z := 130) (as := [.int b, .int 0, .int 6]) (rest := []) (v := some (.int (kx_b (0 ≤ b ∧ b ≤ 6)))) (h1 := kv_wd (kv_up g 64 5 (g 64 5 + 1)) w) rfl (ev_in (d := 898) b 0 6) ?_
              refine kx_st 0 (pc' := 15) (L' := [some (.ref 65), some (.int (nI k)), some (.int b), none]) (st' := [.int (kx_b (0 ≤ b ∧ b ≤ 6))]) (h' := kv_wd (kv_up g 64 5 (g 64 5 + 1)) w) rfl ?_
              refine kx_bn (t := 25) rfl rfl (fun (m15 : (0 ≤ b ∧ b ≤ 6)) => ?_) (fun (m15 : ¬ (0 ≤ b ∧ b ≤ 6)) => ?_)
              · refine kx_st 3 (pc' := 28) (L' := [some (.ref 65), some (.int (nI k)), some (.int b), none]) (st' := [.int 0, .int (nI k), .ref 65]) (h' := kv_wd (kv_up g 64 5 (g 64 5 + 1)) w) rfl ?_
                refine kx_call (z := 136) (as := [.ref 65, .int (nI k), .int 0]) (rest := []) (v := some (.int 1)) (h1 := kv_wd (kv_up g 64 5 (g 64 5 + 1)) w) rfl (by have h_ := ev_its (E := E) (d := 898) (g := kv_up g 64 5 (g 64 5 + 1)) (w := w) k 0 (by omega); rw [show (kv_up g 64 5 (g 64 5 + 1)) 66 (26 + 9 * k + 0) = 1 from hx0] at h_; exact h_) ?_
                refine kx_st 0 (pc' := 31) (L' := [some (.ref 65), some (.int (nI k)), some (.int b), none]) (st' := [.int 1]) (h' := kv_wd (kv_up g 64 5 (g 64 5 + 1)) w) rfl ?_
                refine kx_st 2 (pc' := 33) (L' := [some (.ref 65), some (.int (nI k)), some (.int b), some (.int 1)]) (st' := [.int 1]) (h' := kv_wd (kv_up g 64 5 (g 64 5 + 1)) w) rfl ?_
                refine kx_st 1 (pc' := 36) (L' := [some (.ref 65), some (.int (nI k)), some (.int b), some (.int 1)]) (st' := []) (h' := kv_wd (kv_up g 64 5 (g 64 5 + 1)) w) rfl ?_
                refine kx_st 2 (pc' := 38) (L' := [some (.ref 65), some (.int (nI k)), some (.int b), some (.int 1)]) (st' := [.int b, .int 1]) (h' := kv_wd (kv_up g 64 5 (g 64 5 + 1)) w) rfl ?_
                refine kx_bi (t := 49) rfl rfl (fun (m38 : 1 = b) => ?_) (fun (m38 : ¬ (1 = b)) => ?_)
                · refine kx_st 1 (pc' := 50) (L' := [some (.ref 65), some (.int (nI k)), some (.int b), some (.int 1)]) (st' := [.int 1]) (h' := kv_wd (kv_up g 64 5 (g 64 5 + 1)) w) rfl ?_
                  refine kx_st 1 (pc' := 62) (L' := [some (.ref 65), some (.int (nI k)), some (.int b), some (.int 1)]) (st' := []) (h' := kv_wd (kv_up g 64 5 (g 64 5 + 1)) w) rfl ?_
                  refine kx_st 3 (pc' := 65) (L' := [some (.ref 65), some (.int (nI k)), some (.int b), some (.int 1)]) (st' := [.int 1, .int (nI k), .ref 65]) (h' := kv_wd (kv_up g 64 5 (g 64 5 + 1)) w) rfl ?_
                  refine kx_call (z := 136) (as := [.ref 65, .int (nI k), .int 1]) (rest := []) (v := some (.int ((kv_up g 64 5 (g 64 5 + 1)) 66 (26 + 9 * k + 1)))) (h1 := kv_wd (kv_up g 64 5 (g 64 5 + 1)) w) rfl (ev_its (d := 898) k 1 (by omega)) ?_
                  refine kx_st 0 (pc' := 68) (L' := [some (.ref 65), some (.int (nI k)), some (.int b), some (.int 1)]) (st' := [.int ((kv_up g 64 5 (g 64 5 + 1)) 66 (26 + 9 * k + 1))]) (h' := kv_wd (kv_up g 64 5 (g 64 5 + 1)) w) rfl ?_
                  refine kx_ret (v := some (.int ((kv_up g 64 5 (g 64 5 + 1)) 66 (26 + 9 * k + 1)))) rfl ?_
                  exfalso
                  grind
                · refine kx_st 0 (pc' := 41) (L' := [some (.ref 65), some (.int (nI k)), some (.int b), some (.int 1)]) (st' := []) (h' := kv_wd (kv_up g 64 5 (g 64 5 + 1)) w) rfl ?_
                  refine kx_st 1 (pc' := 42) (L' := [some (.ref 65), some (.int (nI k)), some (.int b), some (.int 1)]) (st' := [.int 1]) (h' := kv_wd (kv_up g 64 5 (g 64 5 + 1)) w) rfl ?_
                  refine kx_call (z := 153) (as := [.int 1]) (rest := []) (v := some (.int 0)) (h1 := kv_wd (kv_up g 64 5 (g 64 5 + 1)) w) rfl (ev_mabove_1 (d := 898)) ?_
                  refine kx_st 0 (pc' := 45) (L' := [some (.ref 65), some (.int (nI k)), some (.int b), some (.int 1)]) (st' := [.int 0]) (h' := kv_wd (kv_up g 64 5 (g 64 5 + 1)) w) rfl ?_
                  refine kx_st 3 (pc' := 33) (L' := [some (.ref 65), some (.int (nI k)), some (.int b), some (.int 0)]) (st' := [.int 0]) (h' := kv_wd (kv_up g 64 5 (g 64 5 + 1)) w) rfl ?_
                  refine kx_st 1 (pc' := 36) (L' := [some (.ref 65), some (.int (nI k)), some (.int b), some (.int 0)]) (st' := []) (h' := kv_wd (kv_up g 64 5 (g 64 5 + 1)) w) rfl ?_
                  refine kx_st 2 (pc' := 38) (L' := [some (.ref 65), some (.int (nI k)), some (.int b), some (.int 0)]) (st' := [.int b, .int 0]) (h' := kv_wd (kv_up g 64 5 (g 64 5 + 1)) w) rfl ?_
                  refine kx_bi (t := 49) rfl rfl (fun (m38_1 : 0 = b) => ?_) (fun (m38_1 : ¬ (0 = b)) => ?_)
                  · refine kx_st 1 (pc' := 50) (L' := [some (.ref 65), some (.int (nI k)), some (.int b), some (.int 0)]) (st' := [.int 0]) (h' := kv_wd (kv_up g 64 5 (g 64 5 + 1)) w) rfl ?_
                    refine kx_st 1 (pc' := 62) (L' := [some (.ref 65), some (.int (nI k)), some (.int b), some (.int 0)]) (st' := []) (h' := kv_wd (kv_up g 64 5 (g 64 5 + 1)) w) rfl ?_
                    refine kx_st 3 (pc' := 65) (L' := [some (.ref 65), some (.int (nI k)), some (.int b), some (.int 0)]) (st' := [.int 1, .int (nI k), .ref 65]) (h' := kv_wd (kv_up g 64 5 (g 64 5 + 1)) w) rfl ?_
                    refine kx_call (z := 136) (as := [.ref 65, .int (nI k), .int 1]) (rest := []) (v := some (.int ((kv_up g 64 5 (g 64 5 + 1)) 66 (26 + 9 * k + 1)))) (h1 := kv_wd (kv_up g 64 5 (g 64 5 + 1)) w) rfl (ev_its (d := 898) k 1 (by omega)) ?_
                    refine kx_st 0 (pc' := 68) (L' := [some (.ref 65), some (.int (nI k)), some (.int b), some (.int 0)]) (st' := [.int ((kv_up g 64 5 (g 64 5 + 1)) 66 (26 + 9 * k + 1))]) (h' := kv_wd (kv_up g 64 5 (g 64 5 + 1)) w) rfl ?_
                    refine kx_ret (v := some (.int ((kv_up g 64 5 (g 64 5 + 1)) 66 (26 + 9 * k + 1)))) rfl ?_
                    exfalso
                    grind
                  · refine kx_st 0 (pc' := 41) (L' := [some (.ref 65), some (.int (nI k)), some (.int b), some (.int 0)]) (st' := []) (h' := kv_wd (kv_up g 64 5 (g 64 5 + 1)) w) rfl ?_
                    refine kx_st 1 (pc' := 42) (L' := [some (.ref 65), some (.int (nI k)), some (.int b), some (.int 0)]) (st' := [.int 0]) (h' := kv_wd (kv_up g 64 5 (g 64 5 + 1)) w) rfl ?_
                    refine kx_call (z := 153) (as := [.int 0]) (rest := []) (v := some (.int (-1))) (h1 := kv_wd (kv_up g 64 5 (g 64 5 + 1)) w) rfl (ev_mabove_0 (d := 898)) ?_
                    refine kx_st 0 (pc' := 45) (L' := [some (.ref 65), some (.int (nI k)), some (.int b), some (.int 0)]) (st' := [.int (-1)]) (h' := kv_wd (kv_up g 64 5 (g 64 5 + 1)) w) rfl ?_
                    refine kx_st 3 (pc' := 33) (L' := [some (.ref 65), some (.int (nI k)), some (.int b), some (.int (-1))]) (st' := [.int (-1)]) (h' := kv_wd (kv_up g 64 5 (g 64 5 + 1)) w) rfl ?_
                    refine kx_st 1 (pc' := 49) (L' := [some (.ref 65), some (.int (nI k)), some (.int b), some (.int (-1))]) (st' := []) (h' := kv_wd (kv_up g 64 5 (g 64 5 + 1)) w) rfl ?_
                    refine kx_st 1 (pc' := 50) (L' := [some (.ref 65), some (.int (nI k)), some (.int b), some (.int (-1))]) (st' := [.int (-1)]) (h' := kv_wd (kv_up g 64 5 (g 64 5 + 1)) w) rfl ?_
                    refine kx_st 1 (pc' := 53) (L' := [some (.ref 65), some (.int (nI k)), some (.int b), some (.int (-1))]) (st' := []) (h' := kv_wd (kv_up g 64 5 (g 64 5 + 1)) w) rfl ?_
                    refine kx_st 2 (pc' := 56) (L' := [some (.ref 65), some (.int (nI k)), some (.int b), some (.int (-1))]) (st' := [.int (-1000000005), .ref 65]) (h' := kv_wd (kv_up g 64 5 (g 64 5 + 1)) w) rfl ?_
                    refine kx_call (z := 131) (as := [.ref 65, .int (-1000000005)]) (rest := []) (v := some (.int (-1000000005))) (h1 := kv_wd (kv_up (kv_up g 64 5 (g 64 5 + 1)) 70 5 ((kv_up g 64 5 (g 64 5 + 1)) 70 5 + 1)) w) rfl (ev_errs (d := 898) (-1000000005) 5 (by decide) (by decide)) ?_
                    refine kx_st 0 (pc' := 59) (L' := [some (.ref 65), some (.int (nI k)), some (.int b), some (.int (-1))]) (st' := [.int (-1000000005)]) (h' := kv_wd (kv_up (kv_up g 64 5 (g 64 5 + 1)) 70 5 ((kv_up g 64 5 (g 64 5 + 1)) 70 5 + 1)) w) rfl ?_
                    refine kx_st 1 (pc' := 68) (L' := [some (.ref 65), some (.int (nI k)), some (.int b), some (.int (-1))]) (st' := [.int (-1000000005)]) (h' := kv_wd (kv_up (kv_up g 64 5 (g 64 5 + 1)) 70 5 ((kv_up g 64 5 (g 64 5 + 1)) 70 5 + 1)) w) rfl ?_
                    refine kx_ret (v := some (.int (-1000000005))) rfl ?_
                    exact ⟨rfl, _, _, rfl, kx_Rl_e hR⟩
              · exact absurd hw m15
          · refine kx_st 0 (pc' := 36) (L' := [some (.ref 0), some (.int (nI k)), some (.int b), some (.ref (14 + k))]) (st' := []) (h' := kv_wd g w) rfl ?_
            refine kx_st 1 (pc' := 37) (L' := [some (.ref 0), some (.int (nI k)), some (.int b), some (.ref (14 + k))]) (st' := [.ref (14 + k)]) (h' := kv_wd g w) rfl ?_
            refine kx_gf (i := 146) (k := 1) (v := .int (g (14 + k) 1)) rfl rfl (kv_kn_h hk8).1 ((kv_kn_h hk8).2 _ _) rfl ?_
            refine kx_st 1 (pc' := 48) (L' := [some (.ref 0), some (.int (nI k)), some (.int b), some (.ref (14 + k))]) (st' := [.int (g (14 + k) 1)]) (h' := kv_wd g w) rfl ?_
            refine kx_ret (v := some (.int (g (14 + k) 1))) rfl ?_
            refine ⟨_, _, _, rfl, rfl, ?_⟩
            refine kx_st 0 (pc' := 0) (L' := [some (.ref 65), some (.int (nI k)), some (.int b), none]) (st' := []) (h' := kv_wd g w) rfl ?_
            refine kx_st 2 (pc' := 2) (L' := [some (.ref 65), some (.int (nI k)), some (.int b), none]) (st' := [.int (nI k), .ref 65]) (h' := kv_wd g w) rfl ?_
            refine kx_call (z := 139) (as := [.ref 65, .int (nI k)]) (rest := []) (v := some (.int (kx_b (0 ≤ nI k ∧ nI k < nI m)))) (h1 := kv_wd g w) rfl (ev_mKnotS (d := 897) (g := g) (s := m) (by first | exact d2 | (rw [kv_up_ne (by omega)]; exact d2)) a4 (nI k)) ?_
            refine kx_st 0 (pc' := 5) (L' := [some (.ref 65), some (.int (nI k)), some (.int b), none]) (st' := [.int (kx_b (0 ≤ nI k ∧ nI k < nI m))]) (h' := kv_wd g w) rfl ?_
            refine kx_be (t := 18) rfl rfl (fun (m5 : ¬ (0 ≤ nI k ∧ nI k < nI m)) => ?_) (fun (m5 : (0 ≤ nI k ∧ nI k < nI m)) => ?_)
            · exact absurd hv m5
            · refine kx_st 0 (pc' := 8) (L' := [some (.ref 65), some (.int (nI k)), some (.int b), none]) (st' := []) (h' := kv_wd g w) rfl ?_
              refine kx_st 3 (pc' := 12) (L' := [some (.ref 65), some (.int (nI k)), some (.int b), none]) (st' := [.int 6, .int 0, .int b]) (h' := kv_wd g w) rfl ?_
              refine kx_call (z := 130) (as := [.int b, .int 0, .int 6]) (rest := []) (v := some (.int (kx_b (0 ≤ b ∧ b ≤ 6)))) (h1 := kv_wd g w) rfl (ev_in (d := 898) b 0 6) ?_
              refine kx_st 0 (pc' := 15) (L' := [some (.ref 65), some (.int (nI k)), some (.int b), none]) (st' := [.int (kx_b (0 ≤ b ∧ b ≤ 6))]) (h' := kv_wd g w) rfl ?_
              refine kx_bn (t := 25) rfl rfl (fun (m15 : (0 ≤ b ∧ b ≤ 6)) => ?_) (fun (m15 : ¬ (0 ≤ b ∧ b ≤ 6)) => ?_)
              · refine kx_st 3 (pc' := 28) (L' := [some (.ref 65), some (.int (nI k)), some (.int b), none]) (st' := [.int 0, .int (nI k), .ref 65]) (h' := kv_wd g w) rfl ?_
                refine kx_call (z := 136) (as := [.ref 65, .int (nI k), .int 0]) (rest := []) (v := some (.int 1)) (h1 := kv_wd g w) rfl (by have h_ := ev_its (E := E) (d := 898) (g := g) (w := w) k 0 (by omega); rw [show g 66 (26 + 9 * k + 0) = 1 from hx0] at h_; exact h_) ?_
                refine kx_st 0 (pc' := 31) (L' := [some (.ref 65), some (.int (nI k)), some (.int b), none]) (st' := [.int 1]) (h' := kv_wd g w) rfl ?_
                refine kx_st 2 (pc' := 33) (L' := [some (.ref 65), some (.int (nI k)), some (.int b), some (.int 1)]) (st' := [.int 1]) (h' := kv_wd g w) rfl ?_
                refine kx_st 1 (pc' := 36) (L' := [some (.ref 65), some (.int (nI k)), some (.int b), some (.int 1)]) (st' := []) (h' := kv_wd g w) rfl ?_
                refine kx_st 2 (pc' := 38) (L' := [some (.ref 65), some (.int (nI k)), some (.int b), some (.int 1)]) (st' := [.int b, .int 1]) (h' := kv_wd g w) rfl ?_
                refine kx_bi (t := 49) rfl rfl (fun (m38 : 1 = b) => ?_) (fun (m38 : ¬ (1 = b)) => ?_)
                · refine kx_st 1 (pc' := 50) (L' := [some (.ref 65), some (.int (nI k)), some (.int b), some (.int 1)]) (st' := [.int 1]) (h' := kv_wd g w) rfl ?_
                  refine kx_st 1 (pc' := 62) (L' := [some (.ref 65), some (.int (nI k)), some (.int b), some (.int 1)]) (st' := []) (h' := kv_wd g w) rfl ?_
                  refine kx_st 3 (pc' := 65) (L' := [some (.ref 65), some (.int (nI k)), some (.int b), some (.int 1)]) (st' := [.int 1, .int (nI k), .ref 65]) (h' := kv_wd g w) rfl ?_
                  refine kx_call (z := 136) (as := [.ref 65, .int (nI k), .int 1]) (rest := []) (v := some (.int (g 66 (26 + 9 * k + 1)))) (h1 := kv_wd g w) rfl (ev_its (d := 898) k 1 (by omega)) ?_
                  refine kx_st 0 (pc' := 68) (L' := [some (.ref 65), some (.int (nI k)), some (.int b), some (.int 1)]) (st' := [.int (g 66 (26 + 9 * k + 1))]) (h' := kv_wd g w) rfl ?_
                  refine kx_ret (v := some (.int (g 66 (26 + 9 * k + 1)))) rfl ?_
                  exact ⟨congrArg (fun z => some (Value.int z)) (kf 1 (by omega)).symm, _, _, rfl, kx_Rl_skip lr g w i hR⟩
                · refine kx_st 0 (pc' := 41) (L' := [some (.ref 65), some (.int (nI k)), some (.int b), some (.int 1)]) (st' := []) (h' := kv_wd g w) rfl ?_
                  refine kx_st 1 (pc' := 42) (L' := [some (.ref 65), some (.int (nI k)), some (.int b), some (.int 1)]) (st' := [.int 1]) (h' := kv_wd g w) rfl ?_
                  refine kx_call (z := 153) (as := [.int 1]) (rest := []) (v := some (.int 0)) (h1 := kv_wd g w) rfl (ev_mabove_1 (d := 898)) ?_
                  refine kx_st 0 (pc' := 45) (L' := [some (.ref 65), some (.int (nI k)), some (.int b), some (.int 1)]) (st' := [.int 0]) (h' := kv_wd g w) rfl ?_
                  refine kx_st 3 (pc' := 33) (L' := [some (.ref 65), some (.int (nI k)), some (.int b), some (.int 0)]) (st' := [.int 0]) (h' := kv_wd g w) rfl ?_
                  refine kx_st 1 (pc' := 36) (L' := [some (.ref 65), some (.int (nI k)), some (.int b), some (.int 0)]) (st' := []) (h' := kv_wd g w) rfl ?_
                  refine kx_st 2 (pc' := 38) (L' := [some (.ref 65), some (.int (nI k)), some (.int b), some (.int 0)]) (st' := [.int b, .int 0]) (h' := kv_wd g w) rfl ?_
                  refine kx_bi (t := 49) rfl rfl (fun (m38_1 : 0 = b) => ?_) (fun (m38_1 : ¬ (0 = b)) => ?_)
                  · refine kx_st 1 (pc' := 50) (L' := [some (.ref 65), some (.int (nI k)), some (.int b), some (.int 0)]) (st' := [.int 0]) (h' := kv_wd g w) rfl ?_
                    refine kx_st 1 (pc' := 62) (L' := [some (.ref 65), some (.int (nI k)), some (.int b), some (.int 0)]) (st' := []) (h' := kv_wd g w) rfl ?_
                    refine kx_st 3 (pc' := 65) (L' := [some (.ref 65), some (.int (nI k)), some (.int b), some (.int 0)]) (st' := [.int 1, .int (nI k), .ref 65]) (h' := kv_wd g w) rfl ?_
                    refine kx_call (z := 136) (as := [.ref 65, .int (nI k), .int 1]) (rest := []) (v := some (.int (g 66 (26 + 9 * k + 1)))) (h1 := kv_wd g w) rfl (ev_its (d := 898) k 1 (by omega)) ?_
                    refine kx_st 0 (pc' := 68) (L' := [some (.ref 65), some (.int (nI k)), some (.int b), some (.int 0)]) (st' := [.int (g 66 (26 + 9 * k + 1))]) (h' := kv_wd g w) rfl ?_
                    refine kx_ret (v := some (.int (g 66 (26 + 9 * k + 1)))) rfl ?_
                    exact ⟨congrArg (fun z => some (Value.int z)) (kf 1 (by omega)).symm, _, _, rfl, kx_Rl_skip lr g w i hR⟩
                  · refine kx_st 0 (pc' := 41) (L' := [some (.ref 65), some (.int (nI k)), some (.int b), some (.int 0)]) (st' := []) (h' := kv_wd g w) rfl ?_
                    refine kx_st 1 (pc' := 42) (L' := [some (.ref 65), some (.int (nI k)), some (.int b), some (.int 0)]) (st' := [.int 0]) (h' := kv_wd g w) rfl ?_
                    refine kx_call (z := 153) (as := [.int 0]) (rest := []) (v := some (.int (-1))) (h1 := kv_wd g w) rfl (ev_mabove_0 (d := 898)) ?_
                    refine kx_st 0 (pc' := 45) (L' := [some (.ref 65), some (.int (nI k)), some (.int b), some (.int 0)]) (st' := [.int (-1)]) (h' := kv_wd g w) rfl ?_
                    refine kx_st 3 (pc' := 33) (L' := [some (.ref 65), some (.int (nI k)), some (.int b), some (.int (-1))]) (st' := [.int (-1)]) (h' := kv_wd g w) rfl ?_
                    refine kx_st 1 (pc' := 49) (L' := [some (.ref 65), some (.int (nI k)), some (.int b), some (.int (-1))]) (st' := []) (h' := kv_wd g w) rfl ?_
                    refine kx_st 1 (pc' := 50) (L' := [some (.ref 65), some (.int (nI k)), some (.int b), some (.int (-1))]) (st' := [.int (-1)]) (h' := kv_wd g w) rfl ?_
                    refine kx_st 1 (pc' := 53) (L' := [some (.ref 65), some (.int (nI k)), some (.int b), some (.int (-1))]) (st' := []) (h' := kv_wd g w) rfl ?_
                    refine kx_st 2 (pc' := 56) (L' := [some (.ref 65), some (.int (nI k)), some (.int b), some (.int (-1))]) (st' := [.int (-1000000005), .ref 65]) (h' := kv_wd g w) rfl ?_
                    refine kx_call (z := 131) (as := [.ref 65, .int (-1000000005)]) (rest := []) (v := some (.int (-1000000005))) (h1 := kv_wd (kv_up g 70 5 (g 70 5 + 1)) w) rfl (ev_errs (d := 898) (-1000000005) 5 (by decide) (by decide)) ?_
                    refine kx_st 0 (pc' := 59) (L' := [some (.ref 65), some (.int (nI k)), some (.int b), some (.int (-1))]) (st' := [.int (-1000000005)]) (h' := kv_wd (kv_up g 70 5 (g 70 5 + 1)) w) rfl ?_
                    refine kx_st 1 (pc' := 68) (L' := [some (.ref 65), some (.int (nI k)), some (.int b), some (.int (-1))]) (st' := [.int (-1000000005)]) (h' := kv_wd (kv_up g 70 5 (g 70 5 + 1)) w) rfl ?_
                    refine kx_ret (v := some (.int (-1000000005))) rfl ?_
                    exfalso
                    grind
              · exact absurd hw m15
        · exact absurd hw h19
      · refine kx_two (by decide) (Nat.le_of_ble_eq_true rfl) (by decide) (Nat.le_of_ble_eq_true rfl) ?_
        refine kx_st 0 (pc' := 0) (L' := [some (.ref 0), some (.int (nI k)), some (.int b), none]) (st' := []) (h' := kv_wd g w) rfl ?_
        refine kx_st 3 (pc' := 5) (L' := [some (.ref 0), some (.int (nI k)), some (.int b), none]) (st' := [.int (nI k), .ref 1]) (h' := kv_wd g w) rfl ?_
        refine kx_call (z := 17) (as := [.ref 1, .int (nI k)]) (rest := []) (v := some (.ref (14 + k))) (h1 := kv_wd g w) rfl (ev_knotAt (d := 898) (g := g) q k hk8 hkn) ?_
        refine kx_st 0 (pc' := 8) (L' := [some (.ref 0), some (.int (nI k)), some (.int b), none]) (st' := [.ref (14 + k)]) (h' := kv_wd g w) rfl ?_
        refine kx_st 2 (pc' := 10) (L' := [some (.ref 0), some (.int (nI k)), some (.int b), some (.ref (14 + k))]) (st' := [.ref (14 + k)]) (h' := kv_wd g w) rfl ?_
        refine kx_st 1 (pc' := 13) (L' := [some (.ref 0), some (.int (nI k)), some (.int b), some (.ref (14 + k))]) (st' := []) (h' := kv_wd g w) rfl ?_
        refine kx_st 2 (pc' := 16) (L' := [some (.ref 0), some (.int (nI k)), some (.int b), some (.ref (14 + k))]) (st' := [.int 6, .int b]) (h' := kv_wd g w) rfl ?_
        refine kx_call (z := 124) (as := [.int b, .int 6]) (rest := []) (v := some (.int (kx_b (0 ≤ b ∧ b ≤ 6)))) (h1 := kv_wd g w) rfl (ev_within (d := 898) b 6) ?_
        refine kx_st 0 (pc' := 19) (L' := [some (.ref 0), some (.int (nI k)), some (.int b), some (.ref (14 + k))]) (st' := [.int (kx_b (0 ≤ b ∧ b ≤ 6))]) (h' := kv_wd g w) rfl ?_
        refine kx_bn (t := 28) rfl rfl (fun (h19 : (0 ≤ b ∧ b ≤ 6)) => ?_) (fun (h19 : ¬ (0 ≤ b ∧ b ≤ 6)) => ?_)
        · refine kx_st 2 (pc' := 30) (L' := [some (.ref 0), some (.int (nI k)), some (.int b), some (.ref (14 + k))]) (st' := [.int b, .ref (14 + k)]) (h' := kv_wd g w) rfl ?_
          refine kx_call (z := 29) (as := [.ref (14 + k), .int b]) (rest := []) (v := some (.int (kx_b (2 = b ∨ 0 = b)))) (h1 := kv_wd g w) (kx_cv (b := 14 + k) (A := [.int b]) (rest := []) rfl rfl rfl rfl (Nat.le_of_ble_eq_true rfl) (kv_kn_h hk8).1 ((kv_kn_h hk8).2 _ _)) (ev_isOf_2 (d := 897) hE k hk8 ((kf 0 (by omega)).trans hx0) b) ?_
          refine kx_st 0 (pc' := 33) (L' := [some (.ref 0), some (.int (nI k)), some (.int b), some (.ref (14 + k))]) (st' := [.int (kx_b (2 = b ∨ 0 = b))]) (h' := kv_wd g w) rfl ?_
          refine kx_be (t := 43) rfl rfl (fun (h33 : ¬ (2 = b ∨ 0 = b)) => ?_) (fun (h33 : (2 = b ∨ 0 = b)) => ?_)
          · refine kx_st 2 (pc' := 45) (L' := [some (.ref 0), some (.int (nI k)), some (.int b), some (.ref (14 + k))]) (st' := [.int 5, .ref 0]) (h' := kv_wd g w) rfl ?_
            refine kx_call (z := 123) (as := [.ref 0, .int 5]) (rest := []) (v := some (.int (-1000000000 - nI 5))) (h1 := kv_wd (kv_up g 64 5 (g 64 5 + 1)) w) rfl (ev_error (d := 898) 5 (by decide) (by decide)) ?_
            refine kx_st 0 (pc' := 48) (L' := [some (.ref 0), some (.int (nI k)), some (.int b), some (.ref (14 + k))]) (st' := [.int (-1000000000 - nI 5)]) (h' := kv_wd (kv_up g 64 5 (g 64 5 + 1)) w) rfl ?_
            refine kx_ret (v := some (.int (-1000000000 - nI 5))) rfl ?_
            refine ⟨_, _, _, rfl, rfl, ?_⟩
            refine kx_st 0 (pc' := 0) (L' := [some (.ref 65), some (.int (nI k)), some (.int b), none]) (st' := []) (h' := kv_wd (kv_up g 64 5 (g 64 5 + 1)) w) rfl ?_
            refine kx_st 2 (pc' := 2) (L' := [some (.ref 65), some (.int (nI k)), some (.int b), none]) (st' := [.int (nI k), .ref 65]) (h' := kv_wd (kv_up g 64 5 (g 64 5 + 1)) w) rfl ?_
            refine kx_call (z := 139) (as := [.ref 65, .int (nI k)]) (rest := []) (v := some (.int (kx_b (0 ≤ nI k ∧ nI k < nI m)))) (h1 := kv_wd (kv_up g 64 5 (g 64 5 + 1)) w) rfl (ev_mKnotS (d := 897) (g := kv_up g 64 5 (g 64 5 + 1)) (s := m) (by first | exact d2 | (rw [kv_up_ne (by omega)]; exact d2)) a4 (nI k)) ?_
            refine kx_st 0 (pc' := 5) (L' := [some (.ref 65), some (.int (nI k)), some (.int b), none]) (st' := [.int (kx_b (0 ≤ nI k ∧ nI k < nI m))]) (h' := kv_wd (kv_up g 64 5 (g 64 5 + 1)) w) rfl ?_
            refine kx_be (t := 18) rfl rfl (fun (m5 : ¬ (0 ≤ nI k ∧ nI k < nI m)) => ?_) (fun (m5 : (0 ≤ nI k ∧ nI k < nI m)) => ?_)
            · exact absurd hv m5
            · refine kx_st 0 (pc' := 8) (L' := [some (.ref 65), some (.int (nI k)), some (.int b), none]) (st' := []) (h' := kv_wd (kv_up g 64 5 (g 64 5 + 1)) w) rfl ?_
              refine kx_st 3 (pc' := 12) (L' := [some (.ref 65), some (.int (nI k)), some (.int b), none]) (st' := [.int 6, .int 0, .int b]) (h' := kv_wd (kv_up g 64 5 (g 64 5 + 1)) w) rfl ?_
              refine kx_call (z := 130) (as := [.int b, .int 0, .int 6]) (rest := []) (v := some (.int (kx_b (0 ≤ b ∧ b ≤ 6)))) (h1 := kv_wd (kv_up g 64 5 (g 64 5 + 1)) w) rfl (ev_in (d := 898) b 0 6) ?_
              refine kx_st 0 (pc' := 15) (L' := [some (.ref 65), some (.int (nI k)), some (.int b), none]) (st' := [.int (kx_b (0 ≤ b ∧ b ≤ 6))]) (h' := kv_wd (kv_up g 64 5 (g 64 5 + 1)) w) rfl ?_
              refine kx_bn (t := 25) rfl rfl (fun (m15 : (0 ≤ b ∧ b ≤ 6)) => ?_) (fun (m15 : ¬ (0 ≤ b ∧ b ≤ 6)) => ?_)
              · refine kx_st 3 (pc' := 28) (L' := [some (.ref 65), some (.int (nI k)), some (.int b), none]) (st' := [.int 0, .int (nI k), .ref 65]) (h' := kv_wd (kv_up g 64 5 (g 64 5 + 1)) w) rfl ?_
                refine kx_call (z := 136) (as := [.ref 65, .int (nI k), .int 0]) (rest := []) (v := some (.int 2)) (h1 := kv_wd (kv_up g 64 5 (g 64 5 + 1)) w) rfl (by have h_ := ev_its (E := E) (d := 898) (g := kv_up g 64 5 (g 64 5 + 1)) (w := w) k 0 (by omega); rw [show (kv_up g 64 5 (g 64 5 + 1)) 66 (26 + 9 * k + 0) = 2 from hx0] at h_; exact h_) ?_
                refine kx_st 0 (pc' := 31) (L' := [some (.ref 65), some (.int (nI k)), some (.int b), none]) (st' := [.int 2]) (h' := kv_wd (kv_up g 64 5 (g 64 5 + 1)) w) rfl ?_
                refine kx_st 2 (pc' := 33) (L' := [some (.ref 65), some (.int (nI k)), some (.int b), some (.int 2)]) (st' := [.int 2]) (h' := kv_wd (kv_up g 64 5 (g 64 5 + 1)) w) rfl ?_
                refine kx_st 1 (pc' := 36) (L' := [some (.ref 65), some (.int (nI k)), some (.int b), some (.int 2)]) (st' := []) (h' := kv_wd (kv_up g 64 5 (g 64 5 + 1)) w) rfl ?_
                refine kx_st 2 (pc' := 38) (L' := [some (.ref 65), some (.int (nI k)), some (.int b), some (.int 2)]) (st' := [.int b, .int 2]) (h' := kv_wd (kv_up g 64 5 (g 64 5 + 1)) w) rfl ?_
                refine kx_bi (t := 49) rfl rfl (fun (m38 : 2 = b) => ?_) (fun (m38 : ¬ (2 = b)) => ?_)
                · refine kx_st 1 (pc' := 50) (L' := [some (.ref 65), some (.int (nI k)), some (.int b), some (.int 2)]) (st' := [.int 2]) (h' := kv_wd (kv_up g 64 5 (g 64 5 + 1)) w) rfl ?_
                  refine kx_st 1 (pc' := 62) (L' := [some (.ref 65), some (.int (nI k)), some (.int b), some (.int 2)]) (st' := []) (h' := kv_wd (kv_up g 64 5 (g 64 5 + 1)) w) rfl ?_
                  refine kx_st 3 (pc' := 65) (L' := [some (.ref 65), some (.int (nI k)), some (.int b), some (.int 2)]) (st' := [.int 1, .int (nI k), .ref 65]) (h' := kv_wd (kv_up g 64 5 (g 64 5 + 1)) w) rfl ?_
                  refine kx_call (z := 136) (as := [.ref 65, .int (nI k), .int 1]) (rest := []) (v := some (.int ((kv_up g 64 5 (g 64 5 + 1)) 66 (26 + 9 * k + 1)))) (h1 := kv_wd (kv_up g 64 5 (g 64 5 + 1)) w) rfl (ev_its (d := 898) k 1 (by omega)) ?_
                  refine kx_st 0 (pc' := 68) (L' := [some (.ref 65), some (.int (nI k)), some (.int b), some (.int 2)]) (st' := [.int ((kv_up g 64 5 (g 64 5 + 1)) 66 (26 + 9 * k + 1))]) (h' := kv_wd (kv_up g 64 5 (g 64 5 + 1)) w) rfl ?_
                  refine kx_ret (v := some (.int ((kv_up g 64 5 (g 64 5 + 1)) 66 (26 + 9 * k + 1)))) rfl ?_
                  exfalso
                  grind
                · refine kx_st 0 (pc' := 41) (L' := [some (.ref 65), some (.int (nI k)), some (.int b), some (.int 2)]) (st' := []) (h' := kv_wd (kv_up g 64 5 (g 64 5 + 1)) w) rfl ?_
                  refine kx_st 1 (pc' := 42) (L' := [some (.ref 65), some (.int (nI k)), some (.int b), some (.int 2)]) (st' := [.int 2]) (h' := kv_wd (kv_up g 64 5 (g 64 5 + 1)) w) rfl ?_
                  refine kx_call (z := 153) (as := [.int 2]) (rest := []) (v := some (.int 0)) (h1 := kv_wd (kv_up g 64 5 (g 64 5 + 1)) w) rfl (ev_mabove_2 (d := 898)) ?_
                  refine kx_st 0 (pc' := 45) (L' := [some (.ref 65), some (.int (nI k)), some (.int b), some (.int 2)]) (st' := [.int 0]) (h' := kv_wd (kv_up g 64 5 (g 64 5 + 1)) w) rfl ?_
                  refine kx_st 3 (pc' := 33) (L' := [some (.ref 65), some (.int (nI k)), some (.int b), some (.int 0)]) (st' := [.int 0]) (h' := kv_wd (kv_up g 64 5 (g 64 5 + 1)) w) rfl ?_
                  refine kx_st 1 (pc' := 36) (L' := [some (.ref 65), some (.int (nI k)), some (.int b), some (.int 0)]) (st' := []) (h' := kv_wd (kv_up g 64 5 (g 64 5 + 1)) w) rfl ?_
                  refine kx_st 2 (pc' := 38) (L' := [some (.ref 65), some (.int (nI k)), some (.int b), some (.int 0)]) (st' := [.int b, .int 0]) (h' := kv_wd (kv_up g 64 5 (g 64 5 + 1)) w) rfl ?_
                  refine kx_bi (t := 49) rfl rfl (fun (m38_1 : 0 = b) => ?_) (fun (m38_1 : ¬ (0 = b)) => ?_)
                  · refine kx_st 1 (pc' := 50) (L' := [some (.ref 65), some (.int (nI k)), some (.int b), some (.int 0)]) (st' := [.int 0]) (h' := kv_wd (kv_up g 64 5 (g 64 5 + 1)) w) rfl ?_
                    refine kx_st 1 (pc' := 62) (L' := [some (.ref 65), some (.int (nI k)), some (.int b), some (.int 0)]) (st' := []) (h' := kv_wd (kv_up g 64 5 (g 64 5 + 1)) w) rfl ?_
                    refine kx_st 3 (pc' := 65) (L' := [some (.ref 65), some (.int (nI k)), some (.int b), some (.int 0)]) (st' := [.int 1, .int (nI k), .ref 65]) (h' := kv_wd (kv_up g 64 5 (g 64 5 + 1)) w) rfl ?_
                    refine kx_call (z := 136) (as := [.ref 65, .int (nI k), .int 1]) (rest := []) (v := some (.int ((kv_up g 64 5 (g 64 5 + 1)) 66 (26 + 9 * k + 1)))) (h1 := kv_wd (kv_up g 64 5 (g 64 5 + 1)) w) rfl (ev_its (d := 898) k 1 (by omega)) ?_
                    refine kx_st 0 (pc' := 68) (L' := [some (.ref 65), some (.int (nI k)), some (.int b), some (.int 0)]) (st' := [.int ((kv_up g 64 5 (g 64 5 + 1)) 66 (26 + 9 * k + 1))]) (h' := kv_wd (kv_up g 64 5 (g 64 5 + 1)) w) rfl ?_
                    refine kx_ret (v := some (.int ((kv_up g 64 5 (g 64 5 + 1)) 66 (26 + 9 * k + 1)))) rfl ?_
                    exfalso
                    grind
                  · refine kx_st 0 (pc' := 41) (L' := [some (.ref 65), some (.int (nI k)), some (.int b), some (.int 0)]) (st' := []) (h' := kv_wd (kv_up g 64 5 (g 64 5 + 1)) w) rfl ?_
                    refine kx_st 1 (pc' := 42) (L' := [some (.ref 65), some (.int (nI k)), some (.int b), some (.int 0)]) (st' := [.int 0]) (h' := kv_wd (kv_up g 64 5 (g 64 5 + 1)) w) rfl ?_
                    refine kx_call (z := 153) (as := [.int 0]) (rest := []) (v := some (.int (-1))) (h1 := kv_wd (kv_up g 64 5 (g 64 5 + 1)) w) rfl (ev_mabove_0 (d := 898)) ?_
                    refine kx_st 0 (pc' := 45) (L' := [some (.ref 65), some (.int (nI k)), some (.int b), some (.int 0)]) (st' := [.int (-1)]) (h' := kv_wd (kv_up g 64 5 (g 64 5 + 1)) w) rfl ?_
                    refine kx_st 3 (pc' := 33) (L' := [some (.ref 65), some (.int (nI k)), some (.int b), some (.int (-1))]) (st' := [.int (-1)]) (h' := kv_wd (kv_up g 64 5 (g 64 5 + 1)) w) rfl ?_
                    refine kx_st 1 (pc' := 49) (L' := [some (.ref 65), some (.int (nI k)), some (.int b), some (.int (-1))]) (st' := []) (h' := kv_wd (kv_up g 64 5 (g 64 5 + 1)) w) rfl ?_
                    refine kx_st 1 (pc' := 50) (L' := [some (.ref 65), some (.int (nI k)), some (.int b), some (.int (-1))]) (st' := [.int (-1)]) (h' := kv_wd (kv_up g 64 5 (g 64 5 + 1)) w) rfl ?_
                    refine kx_st 1 (pc' := 53) (L' := [some (.ref 65), some (.int (nI k)), some (.int b), some (.int (-1))]) (st' := []) (h' := kv_wd (kv_up g 64 5 (g 64 5 + 1)) w) rfl ?_
                    refine kx_st 2 (pc' := 56) (L' := [some (.ref 65), some (.int (nI k)), some (.int b), some (.int (-1))]) (st' := [.int (-1000000005), .ref 65]) (h' := kv_wd (kv_up g 64 5 (g 64 5 + 1)) w) rfl ?_
                    refine kx_call (z := 131) (as := [.ref 65, .int (-1000000005)]) (rest := []) (v := some (.int (-1000000005))) (h1 := kv_wd (kv_up (kv_up g 64 5 (g 64 5 + 1)) 70 5 ((kv_up g 64 5 (g 64 5 + 1)) 70 5 + 1)) w) rfl (ev_errs (d := 898) (-1000000005) 5 (by decide) (by decide)) ?_
                    refine kx_st 0 (pc' := 59) (L' := [some (.ref 65), some (.int (nI k)), some (.int b), some (.int (-1))]) (st' := [.int (-1000000005)]) (h' := kv_wd (kv_up (kv_up g 64 5 (g 64 5 + 1)) 70 5 ((kv_up g 64 5 (g 64 5 + 1)) 70 5 + 1)) w) rfl ?_
                    refine kx_st 1 (pc' := 68) (L' := [some (.ref 65), some (.int (nI k)), some (.int b), some (.int (-1))]) (st' := [.int (-1000000005)]) (h' := kv_wd (kv_up (kv_up g 64 5 (g 64 5 + 1)) 70 5 ((kv_up g 64 5 (g 64 5 + 1)) 70 5 + 1)) w) rfl ?_
                    refine kx_ret (v := some (.int (-1000000005))) rfl ?_
                    exact ⟨rfl, _, _, rfl, kx_Rl_e hR⟩
              · exact absurd hw m15
          · refine kx_st 0 (pc' := 36) (L' := [some (.ref 0), some (.int (nI k)), some (.int b), some (.ref (14 + k))]) (st' := []) (h' := kv_wd g w) rfl ?_
            refine kx_st 1 (pc' := 37) (L' := [some (.ref 0), some (.int (nI k)), some (.int b), some (.ref (14 + k))]) (st' := [.ref (14 + k)]) (h' := kv_wd g w) rfl ?_
            refine kx_gf (i := 146) (k := 1) (v := .int (g (14 + k) 1)) rfl rfl (kv_kn_h hk8).1 ((kv_kn_h hk8).2 _ _) rfl ?_
            refine kx_st 1 (pc' := 48) (L' := [some (.ref 0), some (.int (nI k)), some (.int b), some (.ref (14 + k))]) (st' := [.int (g (14 + k) 1)]) (h' := kv_wd g w) rfl ?_
            refine kx_ret (v := some (.int (g (14 + k) 1))) rfl ?_
            refine ⟨_, _, _, rfl, rfl, ?_⟩
            refine kx_st 0 (pc' := 0) (L' := [some (.ref 65), some (.int (nI k)), some (.int b), none]) (st' := []) (h' := kv_wd g w) rfl ?_
            refine kx_st 2 (pc' := 2) (L' := [some (.ref 65), some (.int (nI k)), some (.int b), none]) (st' := [.int (nI k), .ref 65]) (h' := kv_wd g w) rfl ?_
            refine kx_call (z := 139) (as := [.ref 65, .int (nI k)]) (rest := []) (v := some (.int (kx_b (0 ≤ nI k ∧ nI k < nI m)))) (h1 := kv_wd g w) rfl (ev_mKnotS (d := 897) (g := g) (s := m) (by first | exact d2 | (rw [kv_up_ne (by omega)]; exact d2)) a4 (nI k)) ?_
            refine kx_st 0 (pc' := 5) (L' := [some (.ref 65), some (.int (nI k)), some (.int b), none]) (st' := [.int (kx_b (0 ≤ nI k ∧ nI k < nI m))]) (h' := kv_wd g w) rfl ?_
            refine kx_be (t := 18) rfl rfl (fun (m5 : ¬ (0 ≤ nI k ∧ nI k < nI m)) => ?_) (fun (m5 : (0 ≤ nI k ∧ nI k < nI m)) => ?_)
            · exact absurd hv m5
            · refine kx_st 0 (pc' := 8) (L' := [some (.ref 65), some (.int (nI k)), some (.int b), none]) (st' := []) (h' := kv_wd g w) rfl ?_
              refine kx_st 3 (pc' := 12) (L' := [some (.ref 65), some (.int (nI k)), some (.int b), none]) (st' := [.int 6, .int 0, .int b]) (h' := kv_wd g w) rfl ?_
              refine kx_call (z := 130) (as := [.int b, .int 0, .int 6]) (rest := []) (v := some (.int (kx_b (0 ≤ b ∧ b ≤ 6)))) (h1 := kv_wd g w) rfl (ev_in (d := 898) b 0 6) ?_
              refine kx_st 0 (pc' := 15) (L' := [some (.ref 65), some (.int (nI k)), some (.int b), none]) (st' := [.int (kx_b (0 ≤ b ∧ b ≤ 6))]) (h' := kv_wd g w) rfl ?_
              refine kx_bn (t := 25) rfl rfl (fun (m15 : (0 ≤ b ∧ b ≤ 6)) => ?_) (fun (m15 : ¬ (0 ≤ b ∧ b ≤ 6)) => ?_)
              · refine kx_st 3 (pc' := 28) (L' := [some (.ref 65), some (.int (nI k)), some (.int b), none]) (st' := [.int 0, .int (nI k), .ref 65]) (h' := kv_wd g w) rfl ?_
                refine kx_call (z := 136) (as := [.ref 65, .int (nI k), .int 0]) (rest := []) (v := some (.int 2)) (h1 := kv_wd g w) rfl (by have h_ := ev_its (E := E) (d := 898) (g := g) (w := w) k 0 (by omega); rw [show g 66 (26 + 9 * k + 0) = 2 from hx0] at h_; exact h_) ?_
                refine kx_st 0 (pc' := 31) (L' := [some (.ref 65), some (.int (nI k)), some (.int b), none]) (st' := [.int 2]) (h' := kv_wd g w) rfl ?_
                refine kx_st 2 (pc' := 33) (L' := [some (.ref 65), some (.int (nI k)), some (.int b), some (.int 2)]) (st' := [.int 2]) (h' := kv_wd g w) rfl ?_
                refine kx_st 1 (pc' := 36) (L' := [some (.ref 65), some (.int (nI k)), some (.int b), some (.int 2)]) (st' := []) (h' := kv_wd g w) rfl ?_
                refine kx_st 2 (pc' := 38) (L' := [some (.ref 65), some (.int (nI k)), some (.int b), some (.int 2)]) (st' := [.int b, .int 2]) (h' := kv_wd g w) rfl ?_
                refine kx_bi (t := 49) rfl rfl (fun (m38 : 2 = b) => ?_) (fun (m38 : ¬ (2 = b)) => ?_)
                · refine kx_st 1 (pc' := 50) (L' := [some (.ref 65), some (.int (nI k)), some (.int b), some (.int 2)]) (st' := [.int 2]) (h' := kv_wd g w) rfl ?_
                  refine kx_st 1 (pc' := 62) (L' := [some (.ref 65), some (.int (nI k)), some (.int b), some (.int 2)]) (st' := []) (h' := kv_wd g w) rfl ?_
                  refine kx_st 3 (pc' := 65) (L' := [some (.ref 65), some (.int (nI k)), some (.int b), some (.int 2)]) (st' := [.int 1, .int (nI k), .ref 65]) (h' := kv_wd g w) rfl ?_
                  refine kx_call (z := 136) (as := [.ref 65, .int (nI k), .int 1]) (rest := []) (v := some (.int (g 66 (26 + 9 * k + 1)))) (h1 := kv_wd g w) rfl (ev_its (d := 898) k 1 (by omega)) ?_
                  refine kx_st 0 (pc' := 68) (L' := [some (.ref 65), some (.int (nI k)), some (.int b), some (.int 2)]) (st' := [.int (g 66 (26 + 9 * k + 1))]) (h' := kv_wd g w) rfl ?_
                  refine kx_ret (v := some (.int (g 66 (26 + 9 * k + 1)))) rfl ?_
                  exact ⟨congrArg (fun z => some (Value.int z)) (kf 1 (by omega)).symm, _, _, rfl, kx_Rl_skip lr g w i hR⟩
                · refine kx_st 0 (pc' := 41) (L' := [some (.ref 65), some (.int (nI k)), some (.int b), some (.int 2)]) (st' := []) (h' := kv_wd g w) rfl ?_
                  refine kx_st 1 (pc' := 42) (L' := [some (.ref 65), some (.int (nI k)), some (.int b), some (.int 2)]) (st' := [.int 2]) (h' := kv_wd g w) rfl ?_
                  refine kx_call (z := 153) (as := [.int 2]) (rest := []) (v := some (.int 0)) (h1 := kv_wd g w) rfl (ev_mabove_2 (d := 898)) ?_
                  refine kx_st 0 (pc' := 45) (L' := [some (.ref 65), some (.int (nI k)), some (.int b), some (.int 2)]) (st' := [.int 0]) (h' := kv_wd g w) rfl ?_
                  refine kx_st 3 (pc' := 33) (L' := [some (.ref 65), some (.int (nI k)), some (.int b), some (.int 0)]) (st' := [.int 0]) (h' := kv_wd g w) rfl ?_
                  refine kx_st 1 (pc' := 36) (L' := [some (.ref 65), some (.int (nI k)), some (.int b), some (.int 0)]) (st' := []) (h' := kv_wd g w) rfl ?_
                  refine kx_st 2 (pc' := 38) (L' := [some (.ref 65), some (.int (nI k)), some (.int b), some (.int 0)]) (st' := [.int b, .int 0]) (h' := kv_wd g w) rfl ?_
                  refine kx_bi (t := 49) rfl rfl (fun (m38_1 : 0 = b) => ?_) (fun (m38_1 : ¬ (0 = b)) => ?_)
                  · refine kx_st 1 (pc' := 50) (L' := [some (.ref 65), some (.int (nI k)), some (.int b), some (.int 0)]) (st' := [.int 0]) (h' := kv_wd g w) rfl ?_
                    refine kx_st 1 (pc' := 62) (L' := [some (.ref 65), some (.int (nI k)), some (.int b), some (.int 0)]) (st' := []) (h' := kv_wd g w) rfl ?_
                    refine kx_st 3 (pc' := 65) (L' := [some (.ref 65), some (.int (nI k)), some (.int b), some (.int 0)]) (st' := [.int 1, .int (nI k), .ref 65]) (h' := kv_wd g w) rfl ?_
                    refine kx_call (z := 136) (as := [.ref 65, .int (nI k), .int 1]) (rest := []) (v := some (.int (g 66 (26 + 9 * k + 1)))) (h1 := kv_wd g w) rfl (ev_its (d := 898) k 1 (by omega)) ?_
                    refine kx_st 0 (pc' := 68) (L' := [some (.ref 65), some (.int (nI k)), some (.int b), some (.int 0)]) (st' := [.int (g 66 (26 + 9 * k + 1))]) (h' := kv_wd g w) rfl ?_
                    refine kx_ret (v := some (.int (g 66 (26 + 9 * k + 1)))) rfl ?_
                    exact ⟨congrArg (fun z => some (Value.int z)) (kf 1 (by omega)).symm, _, _, rfl, kx_Rl_skip lr g w i hR⟩
                  · refine kx_st 0 (pc' := 41) (L' := [some (.ref 65), some (.int (nI k)), some (.int b), some (.int 0)]) (st' := []) (h' := kv_wd g w) rfl ?_
                    refine kx_st 1 (pc' := 42) (L' := [some (.ref 65), some (.int (nI k)), some (.int b), some (.int 0)]) (st' := [.int 0]) (h' := kv_wd g w) rfl ?_
                    refine kx_call (z := 153) (as := [.int 0]) (rest := []) (v := some (.int (-1))) (h1 := kv_wd g w) rfl (ev_mabove_0 (d := 898)) ?_
                    refine kx_st 0 (pc' := 45) (L' := [some (.ref 65), some (.int (nI k)), some (.int b), some (.int 0)]) (st' := [.int (-1)]) (h' := kv_wd g w) rfl ?_
                    refine kx_st 3 (pc' := 33) (L' := [some (.ref 65), some (.int (nI k)), some (.int b), some (.int (-1))]) (st' := [.int (-1)]) (h' := kv_wd g w) rfl ?_
                    refine kx_st 1 (pc' := 49) (L' := [some (.ref 65), some (.int (nI k)), some (.int b), some (.int (-1))]) (st' := []) (h' := kv_wd g w) rfl ?_
                    refine kx_st 1 (pc' := 50) (L' := [some (.ref 65), some (.int (nI k)), some (.int b), some (.int (-1))]) (st' := [.int (-1)]) (h' := kv_wd g w) rfl ?_
                    refine kx_st 1 (pc' := 53) (L' := [some (.ref 65), some (.int (nI k)), some (.int b), some (.int (-1))]) (st' := []) (h' := kv_wd g w) rfl ?_
                    refine kx_st 2 (pc' := 56) (L' := [some (.ref 65), some (.int (nI k)), some (.int b), some (.int (-1))]) (st' := [.int (-1000000005), .ref 65]) (h' := kv_wd g w) rfl ?_
                    refine kx_call (z := 131) (as := [.ref 65, .int (-1000000005)]) (rest := []) (v := some (.int (-1000000005))) (h1 := kv_wd (kv_up g 70 5 (g 70 5 + 1)) w) rfl (ev_errs (d := 898) (-1000000005) 5 (by decide) (by decide)) ?_
                    refine kx_st 0 (pc' := 59) (L' := [some (.ref 65), some (.int (nI k)), some (.int b), some (.int (-1))]) (st' := [.int (-1000000005)]) (h' := kv_wd (kv_up g 70 5 (g 70 5 + 1)) w) rfl ?_
                    refine kx_st 1 (pc' := 68) (L' := [some (.ref 65), some (.int (nI k)), some (.int b), some (.int (-1))]) (st' := [.int (-1000000005)]) (h' := kv_wd (kv_up g 70 5 (g 70 5 + 1)) w) rfl ?_
                    refine kx_ret (v := some (.int (-1000000005))) rfl ?_
                    exfalso
                    grind
              · exact absurd hw m15
        · exact absurd hw h19
      · refine kx_two (by decide) (Nat.le_of_ble_eq_true rfl) (by decide) (Nat.le_of_ble_eq_true rfl) ?_
        refine kx_st 0 (pc' := 0) (L' := [some (.ref 0), some (.int (nI k)), some (.int b), none]) (st' := []) (h' := kv_wd g w) rfl ?_
        refine kx_st 3 (pc' := 5) (L' := [some (.ref 0), some (.int (nI k)), some (.int b), none]) (st' := [.int (nI k), .ref 1]) (h' := kv_wd g w) rfl ?_
        refine kx_call (z := 17) (as := [.ref 1, .int (nI k)]) (rest := []) (v := some (.ref (14 + k))) (h1 := kv_wd g w) rfl (ev_knotAt (d := 898) (g := g) q k hk8 hkn) ?_
        refine kx_st 0 (pc' := 8) (L' := [some (.ref 0), some (.int (nI k)), some (.int b), none]) (st' := [.ref (14 + k)]) (h' := kv_wd g w) rfl ?_
        refine kx_st 2 (pc' := 10) (L' := [some (.ref 0), some (.int (nI k)), some (.int b), some (.ref (14 + k))]) (st' := [.ref (14 + k)]) (h' := kv_wd g w) rfl ?_
        refine kx_st 1 (pc' := 13) (L' := [some (.ref 0), some (.int (nI k)), some (.int b), some (.ref (14 + k))]) (st' := []) (h' := kv_wd g w) rfl ?_
        refine kx_st 2 (pc' := 16) (L' := [some (.ref 0), some (.int (nI k)), some (.int b), some (.ref (14 + k))]) (st' := [.int 6, .int b]) (h' := kv_wd g w) rfl ?_
        refine kx_call (z := 124) (as := [.int b, .int 6]) (rest := []) (v := some (.int (kx_b (0 ≤ b ∧ b ≤ 6)))) (h1 := kv_wd g w) rfl (ev_within (d := 898) b 6) ?_
        refine kx_st 0 (pc' := 19) (L' := [some (.ref 0), some (.int (nI k)), some (.int b), some (.ref (14 + k))]) (st' := [.int (kx_b (0 ≤ b ∧ b ≤ 6))]) (h' := kv_wd g w) rfl ?_
        refine kx_bn (t := 28) rfl rfl (fun (h19 : (0 ≤ b ∧ b ≤ 6)) => ?_) (fun (h19 : ¬ (0 ≤ b ∧ b ≤ 6)) => ?_)
        · refine kx_st 2 (pc' := 30) (L' := [some (.ref 0), some (.int (nI k)), some (.int b), some (.ref (14 + k))]) (st' := [.int b, .ref (14 + k)]) (h' := kv_wd g w) rfl ?_
          refine kx_call (z := 29) (as := [.ref (14 + k), .int b]) (rest := []) (v := some (.int (kx_b (3 = b ∨ 0 = b)))) (h1 := kv_wd g w) (kx_cv (b := 14 + k) (A := [.int b]) (rest := []) rfl rfl rfl rfl (Nat.le_of_ble_eq_true rfl) (kv_kn_h hk8).1 ((kv_kn_h hk8).2 _ _)) (ev_isOf_3 (d := 897) hE k hk8 ((kf 0 (by omega)).trans hx0) b) ?_
          refine kx_st 0 (pc' := 33) (L' := [some (.ref 0), some (.int (nI k)), some (.int b), some (.ref (14 + k))]) (st' := [.int (kx_b (3 = b ∨ 0 = b))]) (h' := kv_wd g w) rfl ?_
          refine kx_be (t := 43) rfl rfl (fun (h33 : ¬ (3 = b ∨ 0 = b)) => ?_) (fun (h33 : (3 = b ∨ 0 = b)) => ?_)
          · refine kx_st 2 (pc' := 45) (L' := [some (.ref 0), some (.int (nI k)), some (.int b), some (.ref (14 + k))]) (st' := [.int 5, .ref 0]) (h' := kv_wd g w) rfl ?_
            refine kx_call (z := 123) (as := [.ref 0, .int 5]) (rest := []) (v := some (.int (-1000000000 - nI 5))) (h1 := kv_wd (kv_up g 64 5 (g 64 5 + 1)) w) rfl (ev_error (d := 898) 5 (by decide) (by decide)) ?_
            refine kx_st 0 (pc' := 48) (L' := [some (.ref 0), some (.int (nI k)), some (.int b), some (.ref (14 + k))]) (st' := [.int (-1000000000 - nI 5)]) (h' := kv_wd (kv_up g 64 5 (g 64 5 + 1)) w) rfl ?_
            refine kx_ret (v := some (.int (-1000000000 - nI 5))) rfl ?_
            refine ⟨_, _, _, rfl, rfl, ?_⟩
            refine kx_st 0 (pc' := 0) (L' := [some (.ref 65), some (.int (nI k)), some (.int b), none]) (st' := []) (h' := kv_wd (kv_up g 64 5 (g 64 5 + 1)) w) rfl ?_
            refine kx_st 2 (pc' := 2) (L' := [some (.ref 65), some (.int (nI k)), some (.int b), none]) (st' := [.int (nI k), .ref 65]) (h' := kv_wd (kv_up g 64 5 (g 64 5 + 1)) w) rfl ?_
            refine kx_call (z := 139) (as := [.ref 65, .int (nI k)]) (rest := []) (v := some (.int (kx_b (0 ≤ nI k ∧ nI k < nI m)))) (h1 := kv_wd (kv_up g 64 5 (g 64 5 + 1)) w) rfl (ev_mKnotS (d := 897) (g := kv_up g 64 5 (g 64 5 + 1)) (s := m) (by first | exact d2 | (rw [kv_up_ne (by omega)]; exact d2)) a4 (nI k)) ?_
            refine kx_st 0 (pc' := 5) (L' := [some (.ref 65), some (.int (nI k)), some (.int b), none]) (st' := [.int (kx_b (0 ≤ nI k ∧ nI k < nI m))]) (h' := kv_wd (kv_up g 64 5 (g 64 5 + 1)) w) rfl ?_
            refine kx_be (t := 18) rfl rfl (fun (m5 : ¬ (0 ≤ nI k ∧ nI k < nI m)) => ?_) (fun (m5 : (0 ≤ nI k ∧ nI k < nI m)) => ?_)
            · exact absurd hv m5
            · refine kx_st 0 (pc' := 8) (L' := [some (.ref 65), some (.int (nI k)), some (.int b), none]) (st' := []) (h' := kv_wd (kv_up g 64 5 (g 64 5 + 1)) w) rfl ?_
              refine kx_st 3 (pc' := 12) (L' := [some (.ref 65), some (.int (nI k)), some (.int b), none]) (st' := [.int 6, .int 0, .int b]) (h' := kv_wd (kv_up g 64 5 (g 64 5 + 1)) w) rfl ?_
              refine kx_call (z := 130) (as := [.int b, .int 0, .int 6]) (rest := []) (v := some (.int (kx_b (0 ≤ b ∧ b ≤ 6)))) (h1 := kv_wd (kv_up g 64 5 (g 64 5 + 1)) w) rfl (ev_in (d := 898) b 0 6) ?_
              refine kx_st 0 (pc' := 15) (L' := [some (.ref 65), some (.int (nI k)), some (.int b), none]) (st' := [.int (kx_b (0 ≤ b ∧ b ≤ 6))]) (h' := kv_wd (kv_up g 64 5 (g 64 5 + 1)) w) rfl ?_
              refine kx_bn (t := 25) rfl rfl (fun (m15 : (0 ≤ b ∧ b ≤ 6)) => ?_) (fun (m15 : ¬ (0 ≤ b ∧ b ≤ 6)) => ?_)
              · refine kx_st 3 (pc' := 28) (L' := [some (.ref 65), some (.int (nI k)), some (.int b), none]) (st' := [.int 0, .int (nI k), .ref 65]) (h' := kv_wd (kv_up g 64 5 (g 64 5 + 1)) w) rfl ?_
                refine kx_call (z := 136) (as := [.ref 65, .int (nI k), .int 0]) (rest := []) (v := some (.int 3)) (h1 := kv_wd (kv_up g 64 5 (g 64 5 + 1)) w) rfl (by have h_ := ev_its (E := E) (d := 898) (g := kv_up g 64 5 (g 64 5 + 1)) (w := w) k 0 (by omega); rw [show (kv_up g 64 5 (g 64 5 + 1)) 66 (26 + 9 * k + 0) = 3 from hx0] at h_; exact h_) ?_
                refine kx_st 0 (pc' := 31) (L' := [some (.ref 65), some (.int (nI k)), some (.int b), none]) (st' := [.int 3]) (h' := kv_wd (kv_up g 64 5 (g 64 5 + 1)) w) rfl ?_
                refine kx_st 2 (pc' := 33) (L' := [some (.ref 65), some (.int (nI k)), some (.int b), some (.int 3)]) (st' := [.int 3]) (h' := kv_wd (kv_up g 64 5 (g 64 5 + 1)) w) rfl ?_
                refine kx_st 1 (pc' := 36) (L' := [some (.ref 65), some (.int (nI k)), some (.int b), some (.int 3)]) (st' := []) (h' := kv_wd (kv_up g 64 5 (g 64 5 + 1)) w) rfl ?_
                refine kx_st 2 (pc' := 38) (L' := [some (.ref 65), some (.int (nI k)), some (.int b), some (.int 3)]) (st' := [.int b, .int 3]) (h' := kv_wd (kv_up g 64 5 (g 64 5 + 1)) w) rfl ?_
                refine kx_bi (t := 49) rfl rfl (fun (m38 : 3 = b) => ?_) (fun (m38 : ¬ (3 = b)) => ?_)
                · refine kx_st 1 (pc' := 50) (L' := [some (.ref 65), some (.int (nI k)), some (.int b), some (.int 3)]) (st' := [.int 3]) (h' := kv_wd (kv_up g 64 5 (g 64 5 + 1)) w) rfl ?_
                  refine kx_st 1 (pc' := 62) (L' := [some (.ref 65), some (.int (nI k)), some (.int b), some (.int 3)]) (st' := []) (h' := kv_wd (kv_up g 64 5 (g 64 5 + 1)) w) rfl ?_
                  refine kx_st 3 (pc' := 65) (L' := [some (.ref 65), some (.int (nI k)), some (.int b), some (.int 3)]) (st' := [.int 1, .int (nI k), .ref 65]) (h' := kv_wd (kv_up g 64 5 (g 64 5 + 1)) w) rfl ?_
                  refine kx_call (z := 136) (as := [.ref 65, .int (nI k), .int 1]) (rest := []) (v := some (.int ((kv_up g 64 5 (g 64 5 + 1)) 66 (26 + 9 * k + 1)))) (h1 := kv_wd (kv_up g 64 5 (g 64 5 + 1)) w) rfl (ev_its (d := 898) k 1 (by omega)) ?_
                  refine kx_st 0 (pc' := 68) (L' := [some (.ref 65), some (.int (nI k)), some (.int b), some (.int 3)]) (st' := [.int ((kv_up g 64 5 (g 64 5 + 1)) 66 (26 + 9 * k + 1))]) (h' := kv_wd (kv_up g 64 5 (g 64 5 + 1)) w) rfl ?_
                  refine kx_ret (v := some (.int ((kv_up g 64 5 (g 64 5 + 1)) 66 (26 + 9 * k + 1)))) rfl ?_
                  exfalso
                  grind
                · refine kx_st 0 (pc' := 41) (L' := [some (.ref 65), some (.int (nI k)), some (.int b), some (.int 3)]) (st' := []) (h' := kv_wd (kv_up g 64 5 (g 64 5 + 1)) w) rfl ?_
                  refine kx_st 1 (pc' := 42) (L' := [some (.ref 65), some (.int (nI k)), some (.int b), some (.int 3)]) (st' := [.int 3]) (h' := kv_wd (kv_up g 64 5 (g 64 5 + 1)) w) rfl ?_
                  refine kx_call (z := 153) (as := [.int 3]) (rest := []) (v := some (.int 0)) (h1 := kv_wd (kv_up g 64 5 (g 64 5 + 1)) w) rfl (ev_mabove_3 (d := 898)) ?_
                  refine kx_st 0 (pc' := 45) (L' := [some (.ref 65), some (.int (nI k)), some (.int b), some (.int 3)]) (st' := [.int 0]) (h' := kv_wd (kv_up g 64 5 (g 64 5 + 1)) w) rfl ?_
                  refine kx_st 3 (pc' := 33) (L' := [some (.ref 65), some (.int (nI k)), some (.int b), some (.int 0)]) (st' := [.int 0]) (h' := kv_wd (kv_up g 64 5 (g 64 5 + 1)) w) rfl ?_
                  refine kx_st 1 (pc' := 36) (L' := [some (.ref 65), some (.int (nI k)), some (.int b), some (.int 0)]) (st' := []) (h' := kv_wd (kv_up g 64 5 (g 64 5 + 1)) w) rfl ?_
                  refine kx_st 2 (pc' := 38) (L' := [some (.ref 65), some (.int (nI k)), some (.int b), some (.int 0)]) (st' := [.int b, .int 0]) (h' := kv_wd (kv_up g 64 5 (g 64 5 + 1)) w) rfl ?_
                  refine kx_bi (t := 49) rfl rfl (fun (m38_1 : 0 = b) => ?_) (fun (m38_1 : ¬ (0 = b)) => ?_)
                  · refine kx_st 1 (pc' := 50) (L' := [some (.ref 65), some (.int (nI k)), some (.int b), some (.int 0)]) (st' := [.int 0]) (h' := kv_wd (kv_up g 64 5 (g 64 5 + 1)) w) rfl ?_
                    refine kx_st 1 (pc' := 62) (L' := [some (.ref 65), some (.int (nI k)), some (.int b), some (.int 0)]) (st' := []) (h' := kv_wd (kv_up g 64 5 (g 64 5 + 1)) w) rfl ?_
                    refine kx_st 3 (pc' := 65) (L' := [some (.ref 65), some (.int (nI k)), some (.int b), some (.int 0)]) (st' := [.int 1, .int (nI k), .ref 65]) (h' := kv_wd (kv_up g 64 5 (g 64 5 + 1)) w) rfl ?_
                    refine kx_call (z := 136) (as := [.ref 65, .int (nI k), .int 1]) (rest := []) (v := some (.int ((kv_up g 64 5 (g 64 5 + 1)) 66 (26 + 9 * k + 1)))) (h1 := kv_wd (kv_up g 64 5 (g 64 5 + 1)) w) rfl (ev_its (d := 898) k 1 (by omega)) ?_
                    refine kx_st 0 (pc' := 68) (L' := [some (.ref 65), some (.int (nI k)), some (.int b), some (.int 0)]) (st' := [.int ((kv_up g 64 5 (g 64 5 + 1)) 66 (26 + 9 * k + 1))]) (h' := kv_wd (kv_up g 64 5 (g 64 5 + 1)) w) rfl ?_
                    refine kx_ret (v := some (.int ((kv_up g 64 5 (g 64 5 + 1)) 66 (26 + 9 * k + 1)))) rfl ?_
                    exfalso
                    grind
                  · refine kx_st 0 (pc' := 41) (L' := [some (.ref 65), some (.int (nI k)), some (.int b), some (.int 0)]) (st' := []) (h' := kv_wd (kv_up g 64 5 (g 64 5 + 1)) w) rfl ?_
                    refine kx_st 1 (pc' := 42) (L' := [some (.ref 65), some (.int (nI k)), some (.int b), some (.int 0)]) (st' := [.int 0]) (h' := kv_wd (kv_up g 64 5 (g 64 5 + 1)) w) rfl ?_
                    refine kx_call (z := 153) (as := [.int 0]) (rest := []) (v := some (.int (-1))) (h1 := kv_wd (kv_up g 64 5 (g 64 5 + 1)) w) rfl (ev_mabove_0 (d := 898)) ?_
                    refine kx_st 0 (pc' := 45) (L' := [some (.ref 65), some (.int (nI k)), some (.int b), some (.int 0)]) (st' := [.int (-1)]) (h' := kv_wd (kv_up g 64 5 (g 64 5 + 1)) w) rfl ?_
                    refine kx_st 3 (pc' := 33) (L' := [some (.ref 65), some (.int (nI k)), some (.int b), some (.int (-1))]) (st' := [.int (-1)]) (h' := kv_wd (kv_up g 64 5 (g 64 5 + 1)) w) rfl ?_
                    refine kx_st 1 (pc' := 49) (L' := [some (.ref 65), some (.int (nI k)), some (.int b), some (.int (-1))]) (st' := []) (h' := kv_wd (kv_up g 64 5 (g 64 5 + 1)) w) rfl ?_
                    refine kx_st 1 (pc' := 50) (L' := [some (.ref 65), some (.int (nI k)), some (.int b), some (.int (-1))]) (st' := [.int (-1)]) (h' := kv_wd (kv_up g 64 5 (g 64 5 + 1)) w) rfl ?_
                    refine kx_st 1 (pc' := 53) (L' := [some (.ref 65), some (.int (nI k)), some (.int b), some (.int (-1))]) (st' := []) (h' := kv_wd (kv_up g 64 5 (g 64 5 + 1)) w) rfl ?_
                    refine kx_st 2 (pc' := 56) (L' := [some (.ref 65), some (.int (nI k)), some (.int b), some (.int (-1))]) (st' := [.int (-1000000005), .ref 65]) (h' := kv_wd (kv_up g 64 5 (g 64 5 + 1)) w) rfl ?_
                    refine kx_call (z := 131) (as := [.ref 65, .int (-1000000005)]) (rest := []) (v := some (.int (-1000000005))) (h1 := kv_wd (kv_up (kv_up g 64 5 (g 64 5 + 1)) 70 5 ((kv_up g 64 5 (g 64 5 + 1)) 70 5 + 1)) w) rfl (ev_errs (d := 898) (-1000000005) 5 (by decide) (by decide)) ?_
                    refine kx_st 0 (pc' := 59) (L' := [some (.ref 65), some (.int (nI k)), some (.int b), some (.int (-1))]) (st' := [.int (-1000000005)]) (h' := kv_wd (kv_up (kv_up g 64 5 (g 64 5 + 1)) 70 5 ((kv_up g 64 5 (g 64 5 + 1)) 70 5 + 1)) w) rfl ?_
                    refine kx_st 1 (pc' := 68) (L' := [some (.ref 65), some (.int (nI k)), some (.int b), some (.int (-1))]) (st' := [.int (-1000000005)]) (h' := kv_wd (kv_up (kv_up g 64 5 (g 64 5 + 1)) 70 5 ((kv_up g 64 5 (g 64 5 + 1)) 70 5 + 1)) w) rfl ?_
                    refine kx_ret (v := some (.int (-1000000005))) rfl ?_
                    exact ⟨rfl, _, _, rfl, kx_Rl_e hR⟩
              · exact absurd hw m15
          · refine kx_st 0 (pc' := 36) (L' := [some (.ref 0), some (.int (nI k)), some (.int b), some (.ref (14 + k))]) (st' := []) (h' := kv_wd g w) rfl ?_
            refine kx_st 1 (pc' := 37) (L' := [some (.ref 0), some (.int (nI k)), some (.int b), some (.ref (14 + k))]) (st' := [.ref (14 + k)]) (h' := kv_wd g w) rfl ?_
            refine kx_gf (i := 146) (k := 1) (v := .int (g (14 + k) 1)) rfl rfl (kv_kn_h hk8).1 ((kv_kn_h hk8).2 _ _) rfl ?_
            refine kx_st 1 (pc' := 48) (L' := [some (.ref 0), some (.int (nI k)), some (.int b), some (.ref (14 + k))]) (st' := [.int (g (14 + k) 1)]) (h' := kv_wd g w) rfl ?_
            refine kx_ret (v := some (.int (g (14 + k) 1))) rfl ?_
            refine ⟨_, _, _, rfl, rfl, ?_⟩
            refine kx_st 0 (pc' := 0) (L' := [some (.ref 65), some (.int (nI k)), some (.int b), none]) (st' := []) (h' := kv_wd g w) rfl ?_
            refine kx_st 2 (pc' := 2) (L' := [some (.ref 65), some (.int (nI k)), some (.int b), none]) (st' := [.int (nI k), .ref 65]) (h' := kv_wd g w) rfl ?_
            refine kx_call (z := 139) (as := [.ref 65, .int (nI k)]) (rest := []) (v := some (.int (kx_b (0 ≤ nI k ∧ nI k < nI m)))) (h1 := kv_wd g w) rfl (ev_mKnotS (d := 897) (g := g) (s := m) (by first | exact d2 | (rw [kv_up_ne (by omega)]; exact d2)) a4 (nI k)) ?_
            refine kx_st 0 (pc' := 5) (L' := [some (.ref 65), some (.int (nI k)), some (.int b), none]) (st' := [.int (kx_b (0 ≤ nI k ∧ nI k < nI m))]) (h' := kv_wd g w) rfl ?_
            refine kx_be (t := 18) rfl rfl (fun (m5 : ¬ (0 ≤ nI k ∧ nI k < nI m)) => ?_) (fun (m5 : (0 ≤ nI k ∧ nI k < nI m)) => ?_)
            · exact absurd hv m5
            · refine kx_st 0 (pc' := 8) (L' := [some (.ref 65), some (.int (nI k)), some (.int b), none]) (st' := []) (h' := kv_wd g w) rfl ?_
              refine kx_st 3 (pc' := 12) (L' := [some (.ref 65), some (.int (nI k)), some (.int b), none]) (st' := [.int 6, .int 0, .int b]) (h' := kv_wd g w) rfl ?_
              refine kx_call (z := 130) (as := [.int b, .int 0, .int 6]) (rest := []) (v := some (.int (kx_b (0 ≤ b ∧ b ≤ 6)))) (h1 := kv_wd g w) rfl (ev_in (d := 898) b 0 6) ?_
              refine kx_st 0 (pc' := 15) (L' := [some (.ref 65), some (.int (nI k)), some (.int b), none]) (st' := [.int (kx_b (0 ≤ b ∧ b ≤ 6))]) (h' := kv_wd g w) rfl ?_
              refine kx_bn (t := 25) rfl rfl (fun (m15 : (0 ≤ b ∧ b ≤ 6)) => ?_) (fun (m15 : ¬ (0 ≤ b ∧ b ≤ 6)) => ?_)
              · refine kx_st 3 (pc' := 28) (L' := [some (.ref 65), some (.int (nI k)), some (.int b), none]) (st' := [.int 0, .int (nI k), .ref 65]) (h' := kv_wd g w) rfl ?_
                refine kx_call (z := 136) (as := [.ref 65, .int (nI k), .int 0]) (rest := []) (v := some (.int 3)) (h1 := kv_wd g w) rfl (by have h_ := ev_its (E := E) (d := 898) (g := g) (w := w) k 0 (by omega); rw [show g 66 (26 + 9 * k + 0) = 3 from hx0] at h_; exact h_) ?_
                refine kx_st 0 (pc' := 31) (L' := [some (.ref 65), some (.int (nI k)), some (.int b), none]) (st' := [.int 3]) (h' := kv_wd g w) rfl ?_
                refine kx_st 2 (pc' := 33) (L' := [some (.ref 65), some (.int (nI k)), some (.int b), some (.int 3)]) (st' := [.int 3]) (h' := kv_wd g w) rfl ?_
                refine kx_st 1 (pc' := 36) (L' := [some (.ref 65), some (.int (nI k)), some (.int b), some (.int 3)]) (st' := []) (h' := kv_wd g w) rfl ?_
                refine kx_st 2 (pc' := 38) (L' := [some (.ref 65), some (.int (nI k)), some (.int b), some (.int 3)]) (st' := [.int b, .int 3]) (h' := kv_wd g w) rfl ?_
                refine kx_bi (t := 49) rfl rfl (fun (m38 : 3 = b) => ?_) (fun (m38 : ¬ (3 = b)) => ?_)
                · refine kx_st 1 (pc' := 50) (L' := [some (.ref 65), some (.int (nI k)), some (.int b), some (.int 3)]) (st' := [.int 3]) (h' := kv_wd g w) rfl ?_
                  refine kx_st 1 (pc' := 62) (L' := [some (.ref 65), some (.int (nI k)), some (.int b), some (.int 3)]) (st' := []) (h' := kv_wd g w) rfl ?_
                  refine kx_st 3 (pc' := 65) (L' := [some (.ref 65), some (.int (nI k)), some (.int b), some (.int 3)]) (st' := [.int 1, .int (nI k), .ref 65]) (h' := kv_wd g w) rfl ?_
                  refine kx_call (z := 136) (as := [.ref 65, .int (nI k), .int 1]) (rest := []) (v := some (.int (g 66 (26 + 9 * k + 1)))) (h1 := kv_wd g w) rfl (ev_its (d := 898) k 1 (by omega)) ?_
                  refine kx_st 0 (pc' := 68) (L' := [some (.ref 65), some (.int (nI k)), some (.int b), some (.int 3)]) (st' := [.int (g 66 (26 + 9 * k + 1))]) (h' := kv_wd g w) rfl ?_
                  refine kx_ret (v := some (.int (g 66 (26 + 9 * k + 1)))) rfl ?_
                  exact ⟨congrArg (fun z => some (Value.int z)) (kf 1 (by omega)).symm, _, _, rfl, kx_Rl_skip lr g w i hR⟩
                · refine kx_st 0 (pc' := 41) (L' := [some (.ref 65), some (.int (nI k)), some (.int b), some (.int 3)]) (st' := []) (h' := kv_wd g w) rfl ?_
                  refine kx_st 1 (pc' := 42) (L' := [some (.ref 65), some (.int (nI k)), some (.int b), some (.int 3)]) (st' := [.int 3]) (h' := kv_wd g w) rfl ?_
                  refine kx_call (z := 153) (as := [.int 3]) (rest := []) (v := some (.int 0)) (h1 := kv_wd g w) rfl (ev_mabove_3 (d := 898)) ?_
                  refine kx_st 0 (pc' := 45) (L' := [some (.ref 65), some (.int (nI k)), some (.int b), some (.int 3)]) (st' := [.int 0]) (h' := kv_wd g w) rfl ?_
                  refine kx_st 3 (pc' := 33) (L' := [some (.ref 65), some (.int (nI k)), some (.int b), some (.int 0)]) (st' := [.int 0]) (h' := kv_wd g w) rfl ?_
                  refine kx_st 1 (pc' := 36) (L' := [some (.ref 65), some (.int (nI k)), some (.int b), some (.int 0)]) (st' := []) (h' := kv_wd g w) rfl ?_
                  refine kx_st 2 (pc' := 38) (L' := [some (.ref 65), some (.int (nI k)), some (.int b), some (.int 0)]) (st' := [.int b, .int 0]) (h' := kv_wd g w) rfl ?_
                  refine kx_bi (t := 49) rfl rfl (fun (m38_1 : 0 = b) => ?_) (fun (m38_1 : ¬ (0 = b)) => ?_)
                  · refine kx_st 1 (pc' := 50) (L' := [some (.ref 65), some (.int (nI k)), some (.int b), some (.int 0)]) (st' := [.int 0]) (h' := kv_wd g w) rfl ?_
                    refine kx_st 1 (pc' := 62) (L' := [some (.ref 65), some (.int (nI k)), some (.int b), some (.int 0)]) (st' := []) (h' := kv_wd g w) rfl ?_
                    refine kx_st 3 (pc' := 65) (L' := [some (.ref 65), some (.int (nI k)), some (.int b), some (.int 0)]) (st' := [.int 1, .int (nI k), .ref 65]) (h' := kv_wd g w) rfl ?_
                    refine kx_call (z := 136) (as := [.ref 65, .int (nI k), .int 1]) (rest := []) (v := some (.int (g 66 (26 + 9 * k + 1)))) (h1 := kv_wd g w) rfl (ev_its (d := 898) k 1 (by omega)) ?_
                    refine kx_st 0 (pc' := 68) (L' := [some (.ref 65), some (.int (nI k)), some (.int b), some (.int 0)]) (st' := [.int (g 66 (26 + 9 * k + 1))]) (h' := kv_wd g w) rfl ?_
                    refine kx_ret (v := some (.int (g 66 (26 + 9 * k + 1)))) rfl ?_
                    exact ⟨congrArg (fun z => some (Value.int z)) (kf 1 (by omega)).symm, _, _, rfl, kx_Rl_skip lr g w i hR⟩
                  · refine kx_st 0 (pc' := 41) (L' := [some (.ref 65), some (.int (nI k)), some (.int b), some (.int 0)]) (st' := []) (h' := kv_wd g w) rfl ?_
                    refine kx_st 1 (pc' := 42) (L' := [some (.ref 65), some (.int (nI k)), some (.int b), some (.int 0)]) (st' := [.int 0]) (h' := kv_wd g w) rfl ?_
                    refine kx_call (z := 153) (as := [.int 0]) (rest := []) (v := some (.int (-1))) (h1 := kv_wd g w) rfl (ev_mabove_0 (d := 898)) ?_
                    refine kx_st 0 (pc' := 45) (L' := [some (.ref 65), some (.int (nI k)), some (.int b), some (.int 0)]) (st' := [.int (-1)]) (h' := kv_wd g w) rfl ?_
                    refine kx_st 3 (pc' := 33) (L' := [some (.ref 65), some (.int (nI k)), some (.int b), some (.int (-1))]) (st' := [.int (-1)]) (h' := kv_wd g w) rfl ?_
                    refine kx_st 1 (pc' := 49) (L' := [some (.ref 65), some (.int (nI k)), some (.int b), some (.int (-1))]) (st' := []) (h' := kv_wd g w) rfl ?_
                    refine kx_st 1 (pc' := 50) (L' := [some (.ref 65), some (.int (nI k)), some (.int b), some (.int (-1))]) (st' := [.int (-1)]) (h' := kv_wd g w) rfl ?_
                    refine kx_st 1 (pc' := 53) (L' := [some (.ref 65), some (.int (nI k)), some (.int b), some (.int (-1))]) (st' := []) (h' := kv_wd g w) rfl ?_
                    refine kx_st 2 (pc' := 56) (L' := [some (.ref 65), some (.int (nI k)), some (.int b), some (.int (-1))]) (st' := [.int (-1000000005), .ref 65]) (h' := kv_wd g w) rfl ?_
                    refine kx_call (z := 131) (as := [.ref 65, .int (-1000000005)]) (rest := []) (v := some (.int (-1000000005))) (h1 := kv_wd (kv_up g 70 5 (g 70 5 + 1)) w) rfl (ev_errs (d := 898) (-1000000005) 5 (by decide) (by decide)) ?_
                    refine kx_st 0 (pc' := 59) (L' := [some (.ref 65), some (.int (nI k)), some (.int b), some (.int (-1))]) (st' := [.int (-1000000005)]) (h' := kv_wd (kv_up g 70 5 (g 70 5 + 1)) w) rfl ?_
                    refine kx_st 1 (pc' := 68) (L' := [some (.ref 65), some (.int (nI k)), some (.int b), some (.int (-1))]) (st' := [.int (-1000000005)]) (h' := kv_wd (kv_up g 70 5 (g 70 5 + 1)) w) rfl ?_
                    refine kx_ret (v := some (.int (-1000000005))) rfl ?_
                    exfalso
                    grind
              · exact absurd hw m15
        · exact absurd hw h19
      · refine kx_two (by decide) (Nat.le_of_ble_eq_true rfl) (by decide) (Nat.le_of_ble_eq_true rfl) ?_
        refine kx_st 0 (pc' := 0) (L' := [some (.ref 0), some (.int (nI k)), some (.int b), none]) (st' := []) (h' := kv_wd g w) rfl ?_
        refine kx_st 3 (pc' := 5) (L' := [some (.ref 0), some (.int (nI k)), some (.int b), none]) (st' := [.int (nI k), .ref 1]) (h' := kv_wd g w) rfl ?_
        refine kx_call (z := 17) (as := [.ref 1, .int (nI k)]) (rest := []) (v := some (.ref (14 + k))) (h1 := kv_wd g w) rfl (ev_knotAt (d := 898) (g := g) q k hk8 hkn) ?_
        refine kx_st 0 (pc' := 8) (L' := [some (.ref 0), some (.int (nI k)), some (.int b), none]) (st' := [.ref (14 + k)]) (h' := kv_wd g w) rfl ?_
        refine kx_st 2 (pc' := 10) (L' := [some (.ref 0), some (.int (nI k)), some (.int b), some (.ref (14 + k))]) (st' := [.ref (14 + k)]) (h' := kv_wd g w) rfl ?_
        refine kx_st 1 (pc' := 13) (L' := [some (.ref 0), some (.int (nI k)), some (.int b), some (.ref (14 + k))]) (st' := []) (h' := kv_wd g w) rfl ?_
        refine kx_st 2 (pc' := 16) (L' := [some (.ref 0), some (.int (nI k)), some (.int b), some (.ref (14 + k))]) (st' := [.int 6, .int b]) (h' := kv_wd g w) rfl ?_
        refine kx_call (z := 124) (as := [.int b, .int 6]) (rest := []) (v := some (.int (kx_b (0 ≤ b ∧ b ≤ 6)))) (h1 := kv_wd g w) rfl (ev_within (d := 898) b 6) ?_
        refine kx_st 0 (pc' := 19) (L' := [some (.ref 0), some (.int (nI k)), some (.int b), some (.ref (14 + k))]) (st' := [.int (kx_b (0 ≤ b ∧ b ≤ 6))]) (h' := kv_wd g w) rfl ?_
        refine kx_bn (t := 28) rfl rfl (fun (h19 : (0 ≤ b ∧ b ≤ 6)) => ?_) (fun (h19 : ¬ (0 ≤ b ∧ b ≤ 6)) => ?_)
        · refine kx_st 2 (pc' := 30) (L' := [some (.ref 0), some (.int (nI k)), some (.int b), some (.ref (14 + k))]) (st' := [.int b, .ref (14 + k)]) (h' := kv_wd g w) rfl ?_
          refine kx_call (z := 29) (as := [.ref (14 + k), .int b]) (rest := []) (v := some (.int (kx_b (4 = b ∨ 1 = b ∨ 0 = b)))) (h1 := kv_wd g w) (kx_cv (b := 14 + k) (A := [.int b]) (rest := []) rfl rfl rfl rfl (Nat.le_of_ble_eq_true rfl) (kv_kn_h hk8).1 ((kv_kn_h hk8).2 _ _)) (ev_isOf_4 (d := 897) hE k hk8 ((kf 0 (by omega)).trans hx0) b) ?_
          refine kx_st 0 (pc' := 33) (L' := [some (.ref 0), some (.int (nI k)), some (.int b), some (.ref (14 + k))]) (st' := [.int (kx_b (4 = b ∨ 1 = b ∨ 0 = b))]) (h' := kv_wd g w) rfl ?_
          refine kx_be (t := 43) rfl rfl (fun (h33 : ¬ (4 = b ∨ 1 = b ∨ 0 = b)) => ?_) (fun (h33 : (4 = b ∨ 1 = b ∨ 0 = b)) => ?_)
          · refine kx_st 2 (pc' := 45) (L' := [some (.ref 0), some (.int (nI k)), some (.int b), some (.ref (14 + k))]) (st' := [.int 5, .ref 0]) (h' := kv_wd g w) rfl ?_
            refine kx_call (z := 123) (as := [.ref 0, .int 5]) (rest := []) (v := some (.int (-1000000000 - nI 5))) (h1 := kv_wd (kv_up g 64 5 (g 64 5 + 1)) w) rfl (ev_error (d := 898) 5 (by decide) (by decide)) ?_
            refine kx_st 0 (pc' := 48) (L' := [some (.ref 0), some (.int (nI k)), some (.int b), some (.ref (14 + k))]) (st' := [.int (-1000000000 - nI 5)]) (h' := kv_wd (kv_up g 64 5 (g 64 5 + 1)) w) rfl ?_
            refine kx_ret (v := some (.int (-1000000000 - nI 5))) rfl ?_
            refine ⟨_, _, _, rfl, rfl, ?_⟩
            refine kx_st 0 (pc' := 0) (L' := [some (.ref 65), some (.int (nI k)), some (.int b), none]) (st' := []) (h' := kv_wd (kv_up g 64 5 (g 64 5 + 1)) w) rfl ?_
            refine kx_st 2 (pc' := 2) (L' := [some (.ref 65), some (.int (nI k)), some (.int b), none]) (st' := [.int (nI k), .ref 65]) (h' := kv_wd (kv_up g 64 5 (g 64 5 + 1)) w) rfl ?_
            refine kx_call (z := 139) (as := [.ref 65, .int (nI k)]) (rest := []) (v := some (.int (kx_b (0 ≤ nI k ∧ nI k < nI m)))) (h1 := kv_wd (kv_up g 64 5 (g 64 5 + 1)) w) rfl (ev_mKnotS (d := 897) (g := kv_up g 64 5 (g 64 5 + 1)) (s := m) (by first | exact d2 | (rw [kv_up_ne (by omega)]; exact d2)) a4 (nI k)) ?_
            refine kx_st 0 (pc' := 5) (L' := [some (.ref 65), some (.int (nI k)), some (.int b), none]) (st' := [.int (kx_b (0 ≤ nI k ∧ nI k < nI m))]) (h' := kv_wd (kv_up g 64 5 (g 64 5 + 1)) w) rfl ?_
            refine kx_be (t := 18) rfl rfl (fun (m5 : ¬ (0 ≤ nI k ∧ nI k < nI m)) => ?_) (fun (m5 : (0 ≤ nI k ∧ nI k < nI m)) => ?_)
            · exact absurd hv m5
            · refine kx_st 0 (pc' := 8) (L' := [some (.ref 65), some (.int (nI k)), some (.int b), none]) (st' := []) (h' := kv_wd (kv_up g 64 5 (g 64 5 + 1)) w) rfl ?_
              refine kx_st 3 (pc' := 12) (L' := [some (.ref 65), some (.int (nI k)), some (.int b), none]) (st' := [.int 6, .int 0, .int b]) (h' := kv_wd (kv_up g 64 5 (g 64 5 + 1)) w) rfl ?_
              refine kx_call (z := 130) (as := [.int b, .int 0, .int 6]) (rest := []) (v := some (.int (kx_b (0 ≤ b ∧ b ≤ 6)))) (h1 := kv_wd (kv_up g 64 5 (g 64 5 + 1)) w) rfl (ev_in (d := 898) b 0 6) ?_
              refine kx_st 0 (pc' := 15) (L' := [some (.ref 65), some (.int (nI k)), some (.int b), none]) (st' := [.int (kx_b (0 ≤ b ∧ b ≤ 6))]) (h' := kv_wd (kv_up g 64 5 (g 64 5 + 1)) w) rfl ?_
              refine kx_bn (t := 25) rfl rfl (fun (m15 : (0 ≤ b ∧ b ≤ 6)) => ?_) (fun (m15 : ¬ (0 ≤ b ∧ b ≤ 6)) => ?_)
              · refine kx_st 3 (pc' := 28) (L' := [some (.ref 65), some (.int (nI k)), some (.int b), none]) (st' := [.int 0, .int (nI k), .ref 65]) (h' := kv_wd (kv_up g 64 5 (g 64 5 + 1)) w) rfl ?_
                refine kx_call (z := 136) (as := [.ref 65, .int (nI k), .int 0]) (rest := []) (v := some (.int 4)) (h1 := kv_wd (kv_up g 64 5 (g 64 5 + 1)) w) rfl (by have h_ := ev_its (E := E) (d := 898) (g := kv_up g 64 5 (g 64 5 + 1)) (w := w) k 0 (by omega); rw [show (kv_up g 64 5 (g 64 5 + 1)) 66 (26 + 9 * k + 0) = 4 from hx0] at h_; exact h_) ?_
                refine kx_st 0 (pc' := 31) (L' := [some (.ref 65), some (.int (nI k)), some (.int b), none]) (st' := [.int 4]) (h' := kv_wd (kv_up g 64 5 (g 64 5 + 1)) w) rfl ?_
                refine kx_st 2 (pc' := 33) (L' := [some (.ref 65), some (.int (nI k)), some (.int b), some (.int 4)]) (st' := [.int 4]) (h' := kv_wd (kv_up g 64 5 (g 64 5 + 1)) w) rfl ?_
                refine kx_st 1 (pc' := 36) (L' := [some (.ref 65), some (.int (nI k)), some (.int b), some (.int 4)]) (st' := []) (h' := kv_wd (kv_up g 64 5 (g 64 5 + 1)) w) rfl ?_
                refine kx_st 2 (pc' := 38) (L' := [some (.ref 65), some (.int (nI k)), some (.int b), some (.int 4)]) (st' := [.int b, .int 4]) (h' := kv_wd (kv_up g 64 5 (g 64 5 + 1)) w) rfl ?_
                refine kx_bi (t := 49) rfl rfl (fun (m38 : 4 = b) => ?_) (fun (m38 : ¬ (4 = b)) => ?_)
                · refine kx_st 1 (pc' := 50) (L' := [some (.ref 65), some (.int (nI k)), some (.int b), some (.int 4)]) (st' := [.int 4]) (h' := kv_wd (kv_up g 64 5 (g 64 5 + 1)) w) rfl ?_
                  refine kx_st 1 (pc' := 62) (L' := [some (.ref 65), some (.int (nI k)), some (.int b), some (.int 4)]) (st' := []) (h' := kv_wd (kv_up g 64 5 (g 64 5 + 1)) w) rfl ?_
                  refine kx_st 3 (pc' := 65) (L' := [some (.ref 65), some (.int (nI k)), some (.int b), some (.int 4)]) (st' := [.int 1, .int (nI k), .ref 65]) (h' := kv_wd (kv_up g 64 5 (g 64 5 + 1)) w) rfl ?_
                  refine kx_call (z := 136) (as := [.ref 65, .int (nI k), .int 1]) (rest := []) (v := some (.int ((kv_up g 64 5 (g 64 5 + 1)) 66 (26 + 9 * k + 1)))) (h1 := kv_wd (kv_up g 64 5 (g 64 5 + 1)) w) rfl (ev_its (d := 898) k 1 (by omega)) ?_
                  refine kx_st 0 (pc' := 68) (L' := [some (.ref 65), some (.int (nI k)), some (.int b), some (.int 4)]) (st' := [.int ((kv_up g 64 5 (g 64 5 + 1)) 66 (26 + 9 * k + 1))]) (h' := kv_wd (kv_up g 64 5 (g 64 5 + 1)) w) rfl ?_
                  refine kx_ret (v := some (.int ((kv_up g 64 5 (g 64 5 + 1)) 66 (26 + 9 * k + 1)))) rfl ?_
                  exfalso
                  grind
                · refine kx_st 0 (pc' := 41) (L' := [some (.ref 65), some (.int (nI k)), some (.int b), some (.int 4)]) (st' := []) (h' := kv_wd (kv_up g 64 5 (g 64 5 + 1)) w) rfl ?_
                  refine kx_st 1 (pc' := 42) (L' := [some (.ref 65), some (.int (nI k)), some (.int b), some (.int 4)]) (st' := [.int 4]) (h' := kv_wd (kv_up g 64 5 (g 64 5 + 1)) w) rfl ?_
                  refine kx_call (z := 153) (as := [.int 4]) (rest := []) (v := some (.int 1)) (h1 := kv_wd (kv_up g 64 5 (g 64 5 + 1)) w) rfl (ev_mabove_4 (d := 898)) ?_
                  refine kx_st 0 (pc' := 45) (L' := [some (.ref 65), some (.int (nI k)), some (.int b), some (.int 4)]) (st' := [.int 1]) (h' := kv_wd (kv_up g 64 5 (g 64 5 + 1)) w) rfl ?_
                  refine kx_st 3 (pc' := 33) (L' := [some (.ref 65), some (.int (nI k)), some (.int b), some (.int 1)]) (st' := [.int 1]) (h' := kv_wd (kv_up g 64 5 (g 64 5 + 1)) w) rfl ?_
                  refine kx_st 1 (pc' := 36) (L' := [some (.ref 65), some (.int (nI k)), some (.int b), some (.int 1)]) (st' := []) (h' := kv_wd (kv_up g 64 5 (g 64 5 + 1)) w) rfl ?_
                  refine kx_st 2 (pc' := 38) (L' := [some (.ref 65), some (.int (nI k)), some (.int b), some (.int 1)]) (st' := [.int b, .int 1]) (h' := kv_wd (kv_up g 64 5 (g 64 5 + 1)) w) rfl ?_
                  refine kx_bi (t := 49) rfl rfl (fun (m38_1 : 1 = b) => ?_) (fun (m38_1 : ¬ (1 = b)) => ?_)
                  · refine kx_st 1 (pc' := 50) (L' := [some (.ref 65), some (.int (nI k)), some (.int b), some (.int 1)]) (st' := [.int 1]) (h' := kv_wd (kv_up g 64 5 (g 64 5 + 1)) w) rfl ?_
                    refine kx_st 1 (pc' := 62) (L' := [some (.ref 65), some (.int (nI k)), some (.int b), some (.int 1)]) (st' := []) (h' := kv_wd (kv_up g 64 5 (g 64 5 + 1)) w) rfl ?_
                    refine kx_st 3 (pc' := 65) (L' := [some (.ref 65), some (.int (nI k)), some (.int b), some (.int 1)]) (st' := [.int 1, .int (nI k), .ref 65]) (h' := kv_wd (kv_up g 64 5 (g 64 5 + 1)) w) rfl ?_
                    refine kx_call (z := 136) (as := [.ref 65, .int (nI k), .int 1]) (rest := []) (v := some (.int ((kv_up g 64 5 (g 64 5 + 1)) 66 (26 + 9 * k + 1)))) (h1 := kv_wd (kv_up g 64 5 (g 64 5 + 1)) w) rfl (ev_its (d := 898) k 1 (by omega)) ?_
                    refine kx_st 0 (pc' := 68) (L' := [some (.ref 65), some (.int (nI k)), some (.int b), some (.int 1)]) (st' := [.int ((kv_up g 64 5 (g 64 5 + 1)) 66 (26 + 9 * k + 1))]) (h' := kv_wd (kv_up g 64 5 (g 64 5 + 1)) w) rfl ?_
                    refine kx_ret (v := some (.int ((kv_up g 64 5 (g 64 5 + 1)) 66 (26 + 9 * k + 1)))) rfl ?_
                    exfalso
                    grind
                  · refine kx_st 0 (pc' := 41) (L' := [some (.ref 65), some (.int (nI k)), some (.int b), some (.int 1)]) (st' := []) (h' := kv_wd (kv_up g 64 5 (g 64 5 + 1)) w) rfl ?_
                    refine kx_st 1 (pc' := 42) (L' := [some (.ref 65), some (.int (nI k)), some (.int b), some (.int 1)]) (st' := [.int 1]) (h' := kv_wd (kv_up g 64 5 (g 64 5 + 1)) w) rfl ?_
                    refine kx_call (z := 153) (as := [.int 1]) (rest := []) (v := some (.int 0)) (h1 := kv_wd (kv_up g 64 5 (g 64 5 + 1)) w) rfl (ev_mabove_1 (d := 898)) ?_
                    refine kx_st 0 (pc' := 45) (L' := [some (.ref 65), some (.int (nI k)), some (.int b), some (.int 1)]) (st' := [.int 0]) (h' := kv_wd (kv_up g 64 5 (g 64 5 + 1)) w) rfl ?_
                    refine kx_st 3 (pc' := 33) (L' := [some (.ref 65), some (.int (nI k)), some (.int b), some (.int 0)]) (st' := [.int 0]) (h' := kv_wd (kv_up g 64 5 (g 64 5 + 1)) w) rfl ?_
                    refine kx_st 1 (pc' := 36) (L' := [some (.ref 65), some (.int (nI k)), some (.int b), some (.int 0)]) (st' := []) (h' := kv_wd (kv_up g 64 5 (g 64 5 + 1)) w) rfl ?_
                    refine kx_st 2 (pc' := 38) (L' := [some (.ref 65), some (.int (nI k)), some (.int b), some (.int 0)]) (st' := [.int b, .int 0]) (h' := kv_wd (kv_up g 64 5 (g 64 5 + 1)) w) rfl ?_
                    refine kx_bi (t := 49) rfl rfl (fun (m38_2 : 0 = b) => ?_) (fun (m38_2 : ¬ (0 = b)) => ?_)
                    · refine kx_st 1 (pc' := 50) (L' := [some (.ref 65), some (.int (nI k)), some (.int b), some (.int 0)]) (st' := [.int 0]) (h' := kv_wd (kv_up g 64 5 (g 64 5 + 1)) w) rfl ?_
                      refine kx_st 1 (pc' := 62) (L' := [some (.ref 65), some (.int (nI k)), some (.int b), some (.int 0)]) (st' := []) (h' := kv_wd (kv_up g 64 5 (g 64 5 + 1)) w) rfl ?_
                      refine kx_st 3 (pc' := 65) (L' := [some (.ref 65), some (.int (nI k)), some (.int b), some (.int 0)]) (st' := [.int 1, .int (nI k), .ref 65]) (h' := kv_wd (kv_up g 64 5 (g 64 5 + 1)) w) rfl ?_
                      refine kx_call (z := 136) (as := [.ref 65, .int (nI k), .int 1]) (rest := []) (v := some (.int ((kv_up g 64 5 (g 64 5 + 1)) 66 (26 + 9 * k + 1)))) (h1 := kv_wd (kv_up g 64 5 (g 64 5 + 1)) w) rfl (ev_its (d := 898) k 1 (by omega)) ?_
                      refine kx_st 0 (pc' := 68) (L' := [some (.ref 65), some (.int (nI k)), some (.int b), some (.int 0)]) (st' := [.int ((kv_up g 64 5 (g 64 5 + 1)) 66 (26 + 9 * k + 1))]) (h' := kv_wd (kv_up g 64 5 (g 64 5 + 1)) w) rfl ?_
                      refine kx_ret (v := some (.int ((kv_up g 64 5 (g 64 5 + 1)) 66 (26 + 9 * k + 1)))) rfl ?_
                      exfalso
                      grind
                    · refine kx_st 0 (pc' := 41) (L' := [some (.ref 65), some (.int (nI k)), some (.int b), some (.int 0)]) (st' := []) (h' := kv_wd (kv_up g 64 5 (g 64 5 + 1)) w) rfl ?_
                      refine kx_st 1 (pc' := 42) (L' := [some (.ref 65), some (.int (nI k)), some (.int b), some (.int 0)]) (st' := [.int 0]) (h' := kv_wd (kv_up g 64 5 (g 64 5 + 1)) w) rfl ?_
                      refine kx_call (z := 153) (as := [.int 0]) (rest := []) (v := some (.int (-1))) (h1 := kv_wd (kv_up g 64 5 (g 64 5 + 1)) w) rfl (ev_mabove_0 (d := 898)) ?_
                      refine kx_st 0 (pc' := 45) (L' := [some (.ref 65), some (.int (nI k)), some (.int b), some (.int 0)]) (st' := [.int (-1)]) (h' := kv_wd (kv_up g 64 5 (g 64 5 + 1)) w) rfl ?_
                      refine kx_st 3 (pc' := 33) (L' := [some (.ref 65), some (.int (nI k)), some (.int b), some (.int (-1))]) (st' := [.int (-1)]) (h' := kv_wd (kv_up g 64 5 (g 64 5 + 1)) w) rfl ?_
                      refine kx_st 1 (pc' := 49) (L' := [some (.ref 65), some (.int (nI k)), some (.int b), some (.int (-1))]) (st' := []) (h' := kv_wd (kv_up g 64 5 (g 64 5 + 1)) w) rfl ?_
                      refine kx_st 1 (pc' := 50) (L' := [some (.ref 65), some (.int (nI k)), some (.int b), some (.int (-1))]) (st' := [.int (-1)]) (h' := kv_wd (kv_up g 64 5 (g 64 5 + 1)) w) rfl ?_
                      refine kx_st 1 (pc' := 53) (L' := [some (.ref 65), some (.int (nI k)), some (.int b), some (.int (-1))]) (st' := []) (h' := kv_wd (kv_up g 64 5 (g 64 5 + 1)) w) rfl ?_
                      refine kx_st 2 (pc' := 56) (L' := [some (.ref 65), some (.int (nI k)), some (.int b), some (.int (-1))]) (st' := [.int (-1000000005), .ref 65]) (h' := kv_wd (kv_up g 64 5 (g 64 5 + 1)) w) rfl ?_
                      refine kx_call (z := 131) (as := [.ref 65, .int (-1000000005)]) (rest := []) (v := some (.int (-1000000005))) (h1 := kv_wd (kv_up (kv_up g 64 5 (g 64 5 + 1)) 70 5 ((kv_up g 64 5 (g 64 5 + 1)) 70 5 + 1)) w) rfl (ev_errs (d := 898) (-1000000005) 5 (by decide) (by decide)) ?_
                      refine kx_st 0 (pc' := 59) (L' := [some (.ref 65), some (.int (nI k)), some (.int b), some (.int (-1))]) (st' := [.int (-1000000005)]) (h' := kv_wd (kv_up (kv_up g 64 5 (g 64 5 + 1)) 70 5 ((kv_up g 64 5 (g 64 5 + 1)) 70 5 + 1)) w) rfl ?_
                      refine kx_st 1 (pc' := 68) (L' := [some (.ref 65), some (.int (nI k)), some (.int b), some (.int (-1))]) (st' := [.int (-1000000005)]) (h' := kv_wd (kv_up (kv_up g 64 5 (g 64 5 + 1)) 70 5 ((kv_up g 64 5 (g 64 5 + 1)) 70 5 + 1)) w) rfl ?_
                      refine kx_ret (v := some (.int (-1000000005))) rfl ?_
                      exact ⟨rfl, _, _, rfl, kx_Rl_e hR⟩
              · exact absurd hw m15
          · refine kx_st 0 (pc' := 36) (L' := [some (.ref 0), some (.int (nI k)), some (.int b), some (.ref (14 + k))]) (st' := []) (h' := kv_wd g w) rfl ?_
            refine kx_st 1 (pc' := 37) (L' := [some (.ref 0), some (.int (nI k)), some (.int b), some (.ref (14 + k))]) (st' := [.ref (14 + k)]) (h' := kv_wd g w) rfl ?_
            refine kx_gf (i := 146) (k := 1) (v := .int (g (14 + k) 1)) rfl rfl (kv_kn_h hk8).1 ((kv_kn_h hk8).2 _ _) rfl ?_
            refine kx_st 1 (pc' := 48) (L' := [some (.ref 0), some (.int (nI k)), some (.int b), some (.ref (14 + k))]) (st' := [.int (g (14 + k) 1)]) (h' := kv_wd g w) rfl ?_
            refine kx_ret (v := some (.int (g (14 + k) 1))) rfl ?_
            refine ⟨_, _, _, rfl, rfl, ?_⟩
            refine kx_st 0 (pc' := 0) (L' := [some (.ref 65), some (.int (nI k)), some (.int b), none]) (st' := []) (h' := kv_wd g w) rfl ?_
            refine kx_st 2 (pc' := 2) (L' := [some (.ref 65), some (.int (nI k)), some (.int b), none]) (st' := [.int (nI k), .ref 65]) (h' := kv_wd g w) rfl ?_
            refine kx_call (z := 139) (as := [.ref 65, .int (nI k)]) (rest := []) (v := some (.int (kx_b (0 ≤ nI k ∧ nI k < nI m)))) (h1 := kv_wd g w) rfl (ev_mKnotS (d := 897) (g := g) (s := m) (by first | exact d2 | (rw [kv_up_ne (by omega)]; exact d2)) a4 (nI k)) ?_
            refine kx_st 0 (pc' := 5) (L' := [some (.ref 65), some (.int (nI k)), some (.int b), none]) (st' := [.int (kx_b (0 ≤ nI k ∧ nI k < nI m))]) (h' := kv_wd g w) rfl ?_
            refine kx_be (t := 18) rfl rfl (fun (m5 : ¬ (0 ≤ nI k ∧ nI k < nI m)) => ?_) (fun (m5 : (0 ≤ nI k ∧ nI k < nI m)) => ?_)
            · exact absurd hv m5
            · refine kx_st 0 (pc' := 8) (L' := [some (.ref 65), some (.int (nI k)), some (.int b), none]) (st' := []) (h' := kv_wd g w) rfl ?_
              refine kx_st 3 (pc' := 12) (L' := [some (.ref 65), some (.int (nI k)), some (.int b), none]) (st' := [.int 6, .int 0, .int b]) (h' := kv_wd g w) rfl ?_
              refine kx_call (z := 130) (as := [.int b, .int 0, .int 6]) (rest := []) (v := some (.int (kx_b (0 ≤ b ∧ b ≤ 6)))) (h1 := kv_wd g w) rfl (ev_in (d := 898) b 0 6) ?_
              refine kx_st 0 (pc' := 15) (L' := [some (.ref 65), some (.int (nI k)), some (.int b), none]) (st' := [.int (kx_b (0 ≤ b ∧ b ≤ 6))]) (h' := kv_wd g w) rfl ?_
              refine kx_bn (t := 25) rfl rfl (fun (m15 : (0 ≤ b ∧ b ≤ 6)) => ?_) (fun (m15 : ¬ (0 ≤ b ∧ b ≤ 6)) => ?_)
              · refine kx_st 3 (pc' := 28) (L' := [some (.ref 65), some (.int (nI k)), some (.int b), none]) (st' := [.int 0, .int (nI k), .ref 65]) (h' := kv_wd g w) rfl ?_
                refine kx_call (z := 136) (as := [.ref 65, .int (nI k), .int 0]) (rest := []) (v := some (.int 4)) (h1 := kv_wd g w) rfl (by have h_ := ev_its (E := E) (d := 898) (g := g) (w := w) k 0 (by omega); rw [show g 66 (26 + 9 * k + 0) = 4 from hx0] at h_; exact h_) ?_
                refine kx_st 0 (pc' := 31) (L' := [some (.ref 65), some (.int (nI k)), some (.int b), none]) (st' := [.int 4]) (h' := kv_wd g w) rfl ?_
                refine kx_st 2 (pc' := 33) (L' := [some (.ref 65), some (.int (nI k)), some (.int b), some (.int 4)]) (st' := [.int 4]) (h' := kv_wd g w) rfl ?_
                refine kx_st 1 (pc' := 36) (L' := [some (.ref 65), some (.int (nI k)), some (.int b), some (.int 4)]) (st' := []) (h' := kv_wd g w) rfl ?_
                refine kx_st 2 (pc' := 38) (L' := [some (.ref 65), some (.int (nI k)), some (.int b), some (.int 4)]) (st' := [.int b, .int 4]) (h' := kv_wd g w) rfl ?_
                refine kx_bi (t := 49) rfl rfl (fun (m38 : 4 = b) => ?_) (fun (m38 : ¬ (4 = b)) => ?_)
                · refine kx_st 1 (pc' := 50) (L' := [some (.ref 65), some (.int (nI k)), some (.int b), some (.int 4)]) (st' := [.int 4]) (h' := kv_wd g w) rfl ?_
                  refine kx_st 1 (pc' := 62) (L' := [some (.ref 65), some (.int (nI k)), some (.int b), some (.int 4)]) (st' := []) (h' := kv_wd g w) rfl ?_
                  refine kx_st 3 (pc' := 65) (L' := [some (.ref 65), some (.int (nI k)), some (.int b), some (.int 4)]) (st' := [.int 1, .int (nI k), .ref 65]) (h' := kv_wd g w) rfl ?_
                  refine kx_call (z := 136) (as := [.ref 65, .int (nI k), .int 1]) (rest := []) (v := some (.int (g 66 (26 + 9 * k + 1)))) (h1 := kv_wd g w) rfl (ev_its (d := 898) k 1 (by omega)) ?_
                  refine kx_st 0 (pc' := 68) (L' := [some (.ref 65), some (.int (nI k)), some (.int b), some (.int 4)]) (st' := [.int (g 66 (26 + 9 * k + 1))]) (h' := kv_wd g w) rfl ?_
                  refine kx_ret (v := some (.int (g 66 (26 + 9 * k + 1)))) rfl ?_
                  exact ⟨congrArg (fun z => some (Value.int z)) (kf 1 (by omega)).symm, _, _, rfl, kx_Rl_skip lr g w i hR⟩
                · refine kx_st 0 (pc' := 41) (L' := [some (.ref 65), some (.int (nI k)), some (.int b), some (.int 4)]) (st' := []) (h' := kv_wd g w) rfl ?_
                  refine kx_st 1 (pc' := 42) (L' := [some (.ref 65), some (.int (nI k)), some (.int b), some (.int 4)]) (st' := [.int 4]) (h' := kv_wd g w) rfl ?_
                  refine kx_call (z := 153) (as := [.int 4]) (rest := []) (v := some (.int 1)) (h1 := kv_wd g w) rfl (ev_mabove_4 (d := 898)) ?_
                  refine kx_st 0 (pc' := 45) (L' := [some (.ref 65), some (.int (nI k)), some (.int b), some (.int 4)]) (st' := [.int 1]) (h' := kv_wd g w) rfl ?_
                  refine kx_st 3 (pc' := 33) (L' := [some (.ref 65), some (.int (nI k)), some (.int b), some (.int 1)]) (st' := [.int 1]) (h' := kv_wd g w) rfl ?_
                  refine kx_st 1 (pc' := 36) (L' := [some (.ref 65), some (.int (nI k)), some (.int b), some (.int 1)]) (st' := []) (h' := kv_wd g w) rfl ?_
                  refine kx_st 2 (pc' := 38) (L' := [some (.ref 65), some (.int (nI k)), some (.int b), some (.int 1)]) (st' := [.int b, .int 1]) (h' := kv_wd g w) rfl ?_
                  refine kx_bi (t := 49) rfl rfl (fun (m38_1 : 1 = b) => ?_) (fun (m38_1 : ¬ (1 = b)) => ?_)
                  · refine kx_st 1 (pc' := 50) (L' := [some (.ref 65), some (.int (nI k)), some (.int b), some (.int 1)]) (st' := [.int 1]) (h' := kv_wd g w) rfl ?_
                    refine kx_st 1 (pc' := 62) (L' := [some (.ref 65), some (.int (nI k)), some (.int b), some (.int 1)]) (st' := []) (h' := kv_wd g w) rfl ?_
                    refine kx_st 3 (pc' := 65) (L' := [some (.ref 65), some (.int (nI k)), some (.int b), some (.int 1)]) (st' := [.int 1, .int (nI k), .ref 65]) (h' := kv_wd g w) rfl ?_
                    refine kx_call (z := 136) (as := [.ref 65, .int (nI k), .int 1]) (rest := []) (v := some (.int (g 66 (26 + 9 * k + 1)))) (h1 := kv_wd g w) rfl (ev_its (d := 898) k 1 (by omega)) ?_
                    refine kx_st 0 (pc' := 68) (L' := [some (.ref 65), some (.int (nI k)), some (.int b), some (.int 1)]) (st' := [.int (g 66 (26 + 9 * k + 1))]) (h' := kv_wd g w) rfl ?_
                    refine kx_ret (v := some (.int (g 66 (26 + 9 * k + 1)))) rfl ?_
                    exact ⟨congrArg (fun z => some (Value.int z)) (kf 1 (by omega)).symm, _, _, rfl, kx_Rl_skip lr g w i hR⟩
                  · refine kx_st 0 (pc' := 41) (L' := [some (.ref 65), some (.int (nI k)), some (.int b), some (.int 1)]) (st' := []) (h' := kv_wd g w) rfl ?_
                    refine kx_st 1 (pc' := 42) (L' := [some (.ref 65), some (.int (nI k)), some (.int b), some (.int 1)]) (st' := [.int 1]) (h' := kv_wd g w) rfl ?_
                    refine kx_call (z := 153) (as := [.int 1]) (rest := []) (v := some (.int 0)) (h1 := kv_wd g w) rfl (ev_mabove_1 (d := 898)) ?_
                    refine kx_st 0 (pc' := 45) (L' := [some (.ref 65), some (.int (nI k)), some (.int b), some (.int 1)]) (st' := [.int 0]) (h' := kv_wd g w) rfl ?_
                    refine kx_st 3 (pc' := 33) (L' := [some (.ref 65), some (.int (nI k)), some (.int b), some (.int 0)]) (st' := [.int 0]) (h' := kv_wd g w) rfl ?_
                    refine kx_st 1 (pc' := 36) (L' := [some (.ref 65), some (.int (nI k)), some (.int b), some (.int 0)]) (st' := []) (h' := kv_wd g w) rfl ?_
                    refine kx_st 2 (pc' := 38) (L' := [some (.ref 65), some (.int (nI k)), some (.int b), some (.int 0)]) (st' := [.int b, .int 0]) (h' := kv_wd g w) rfl ?_
                    refine kx_bi (t := 49) rfl rfl (fun (m38_2 : 0 = b) => ?_) (fun (m38_2 : ¬ (0 = b)) => ?_)
                    · refine kx_st 1 (pc' := 50) (L' := [some (.ref 65), some (.int (nI k)), some (.int b), some (.int 0)]) (st' := [.int 0]) (h' := kv_wd g w) rfl ?_
                      refine kx_st 1 (pc' := 62) (L' := [some (.ref 65), some (.int (nI k)), some (.int b), some (.int 0)]) (st' := []) (h' := kv_wd g w) rfl ?_
                      refine kx_st 3 (pc' := 65) (L' := [some (.ref 65), some (.int (nI k)), some (.int b), some (.int 0)]) (st' := [.int 1, .int (nI k), .ref 65]) (h' := kv_wd g w) rfl ?_
                      refine kx_call (z := 136) (as := [.ref 65, .int (nI k), .int 1]) (rest := []) (v := some (.int (g 66 (26 + 9 * k + 1)))) (h1 := kv_wd g w) rfl (ev_its (d := 898) k 1 (by omega)) ?_
                      refine kx_st 0 (pc' := 68) (L' := [some (.ref 65), some (.int (nI k)), some (.int b), some (.int 0)]) (st' := [.int (g 66 (26 + 9 * k + 1))]) (h' := kv_wd g w) rfl ?_
                      refine kx_ret (v := some (.int (g 66 (26 + 9 * k + 1)))) rfl ?_
                      exact ⟨congrArg (fun z => some (Value.int z)) (kf 1 (by omega)).symm, _, _, rfl, kx_Rl_skip lr g w i hR⟩
                    · refine kx_st 0 (pc' := 41) (L' := [some (.ref 65), some (.int (nI k)), some (.int b), some (.int 0)]) (st' := []) (h' := kv_wd g w) rfl ?_
                      refine kx_st 1 (pc' := 42) (L' := [some (.ref 65), some (.int (nI k)), some (.int b), some (.int 0)]) (st' := [.int 0]) (h' := kv_wd g w) rfl ?_
                      refine kx_call (z := 153) (as := [.int 0]) (rest := []) (v := some (.int (-1))) (h1 := kv_wd g w) rfl (ev_mabove_0 (d := 898)) ?_
                      refine kx_st 0 (pc' := 45) (L' := [some (.ref 65), some (.int (nI k)), some (.int b), some (.int 0)]) (st' := [.int (-1)]) (h' := kv_wd g w) rfl ?_
                      refine kx_st 3 (pc' := 33) (L' := [some (.ref 65), some (.int (nI k)), some (.int b), some (.int (-1))]) (st' := [.int (-1)]) (h' := kv_wd g w) rfl ?_
                      refine kx_st 1 (pc' := 49) (L' := [some (.ref 65), some (.int (nI k)), some (.int b), some (.int (-1))]) (st' := []) (h' := kv_wd g w) rfl ?_
                      refine kx_st 1 (pc' := 50) (L' := [some (.ref 65), some (.int (nI k)), some (.int b), some (.int (-1))]) (st' := [.int (-1)]) (h' := kv_wd g w) rfl ?_
                      refine kx_st 1 (pc' := 53) (L' := [some (.ref 65), some (.int (nI k)), some (.int b), some (.int (-1))]) (st' := []) (h' := kv_wd g w) rfl ?_
                      refine kx_st 2 (pc' := 56) (L' := [some (.ref 65), some (.int (nI k)), some (.int b), some (.int (-1))]) (st' := [.int (-1000000005), .ref 65]) (h' := kv_wd g w) rfl ?_
                      refine kx_call (z := 131) (as := [.ref 65, .int (-1000000005)]) (rest := []) (v := some (.int (-1000000005))) (h1 := kv_wd (kv_up g 70 5 (g 70 5 + 1)) w) rfl (ev_errs (d := 898) (-1000000005) 5 (by decide) (by decide)) ?_
                      refine kx_st 0 (pc' := 59) (L' := [some (.ref 65), some (.int (nI k)), some (.int b), some (.int (-1))]) (st' := [.int (-1000000005)]) (h' := kv_wd (kv_up g 70 5 (g 70 5 + 1)) w) rfl ?_
                      refine kx_st 1 (pc' := 68) (L' := [some (.ref 65), some (.int (nI k)), some (.int b), some (.int (-1))]) (st' := [.int (-1000000005)]) (h' := kv_wd (kv_up g 70 5 (g 70 5 + 1)) w) rfl ?_
                      refine kx_ret (v := some (.int (-1000000005))) rfl ?_
                      exfalso
                      grind
              · exact absurd hw m15
        · exact absurd hw h19
      · refine kx_two (by decide) (Nat.le_of_ble_eq_true rfl) (by decide) (Nat.le_of_ble_eq_true rfl) ?_
        refine kx_st 0 (pc' := 0) (L' := [some (.ref 0), some (.int (nI k)), some (.int b), none]) (st' := []) (h' := kv_wd g w) rfl ?_
        refine kx_st 3 (pc' := 5) (L' := [some (.ref 0), some (.int (nI k)), some (.int b), none]) (st' := [.int (nI k), .ref 1]) (h' := kv_wd g w) rfl ?_
        refine kx_call (z := 17) (as := [.ref 1, .int (nI k)]) (rest := []) (v := some (.ref (14 + k))) (h1 := kv_wd g w) rfl (ev_knotAt (d := 898) (g := g) q k hk8 hkn) ?_
        refine kx_st 0 (pc' := 8) (L' := [some (.ref 0), some (.int (nI k)), some (.int b), none]) (st' := [.ref (14 + k)]) (h' := kv_wd g w) rfl ?_
        refine kx_st 2 (pc' := 10) (L' := [some (.ref 0), some (.int (nI k)), some (.int b), some (.ref (14 + k))]) (st' := [.ref (14 + k)]) (h' := kv_wd g w) rfl ?_
        refine kx_st 1 (pc' := 13) (L' := [some (.ref 0), some (.int (nI k)), some (.int b), some (.ref (14 + k))]) (st' := []) (h' := kv_wd g w) rfl ?_
        refine kx_st 2 (pc' := 16) (L' := [some (.ref 0), some (.int (nI k)), some (.int b), some (.ref (14 + k))]) (st' := [.int 6, .int b]) (h' := kv_wd g w) rfl ?_
        refine kx_call (z := 124) (as := [.int b, .int 6]) (rest := []) (v := some (.int (kx_b (0 ≤ b ∧ b ≤ 6)))) (h1 := kv_wd g w) rfl (ev_within (d := 898) b 6) ?_
        refine kx_st 0 (pc' := 19) (L' := [some (.ref 0), some (.int (nI k)), some (.int b), some (.ref (14 + k))]) (st' := [.int (kx_b (0 ≤ b ∧ b ≤ 6))]) (h' := kv_wd g w) rfl ?_
        refine kx_bn (t := 28) rfl rfl (fun (h19 : (0 ≤ b ∧ b ≤ 6)) => ?_) (fun (h19 : ¬ (0 ≤ b ∧ b ≤ 6)) => ?_)
        · refine kx_st 2 (pc' := 30) (L' := [some (.ref 0), some (.int (nI k)), some (.int b), some (.ref (14 + k))]) (st' := [.int b, .ref (14 + k)]) (h' := kv_wd g w) rfl ?_
          refine kx_call (z := 29) (as := [.ref (14 + k), .int b]) (rest := []) (v := some (.int (kx_b (5 = b ∨ 2 = b ∨ 0 = b)))) (h1 := kv_wd g w) (kx_cv (b := 14 + k) (A := [.int b]) (rest := []) rfl rfl rfl rfl (Nat.le_of_ble_eq_true rfl) (kv_kn_h hk8).1 ((kv_kn_h hk8).2 _ _)) (ev_isOf_5 (d := 897) hE k hk8 ((kf 0 (by omega)).trans hx0) b) ?_
          refine kx_st 0 (pc' := 33) (L' := [some (.ref 0), some (.int (nI k)), some (.int b), some (.ref (14 + k))]) (st' := [.int (kx_b (5 = b ∨ 2 = b ∨ 0 = b))]) (h' := kv_wd g w) rfl ?_
          refine kx_be (t := 43) rfl rfl (fun (h33 : ¬ (5 = b ∨ 2 = b ∨ 0 = b)) => ?_) (fun (h33 : (5 = b ∨ 2 = b ∨ 0 = b)) => ?_)
          · refine kx_st 2 (pc' := 45) (L' := [some (.ref 0), some (.int (nI k)), some (.int b), some (.ref (14 + k))]) (st' := [.int 5, .ref 0]) (h' := kv_wd g w) rfl ?_
            refine kx_call (z := 123) (as := [.ref 0, .int 5]) (rest := []) (v := some (.int (-1000000000 - nI 5))) (h1 := kv_wd (kv_up g 64 5 (g 64 5 + 1)) w) rfl (ev_error (d := 898) 5 (by decide) (by decide)) ?_
            refine kx_st 0 (pc' := 48) (L' := [some (.ref 0), some (.int (nI k)), some (.int b), some (.ref (14 + k))]) (st' := [.int (-1000000000 - nI 5)]) (h' := kv_wd (kv_up g 64 5 (g 64 5 + 1)) w) rfl ?_
            refine kx_ret (v := some (.int (-1000000000 - nI 5))) rfl ?_
            refine ⟨_, _, _, rfl, rfl, ?_⟩
            refine kx_st 0 (pc' := 0) (L' := [some (.ref 65), some (.int (nI k)), some (.int b), none]) (st' := []) (h' := kv_wd (kv_up g 64 5 (g 64 5 + 1)) w) rfl ?_
            refine kx_st 2 (pc' := 2) (L' := [some (.ref 65), some (.int (nI k)), some (.int b), none]) (st' := [.int (nI k), .ref 65]) (h' := kv_wd (kv_up g 64 5 (g 64 5 + 1)) w) rfl ?_
            refine kx_call (z := 139) (as := [.ref 65, .int (nI k)]) (rest := []) (v := some (.int (kx_b (0 ≤ nI k ∧ nI k < nI m)))) (h1 := kv_wd (kv_up g 64 5 (g 64 5 + 1)) w) rfl (ev_mKnotS (d := 897) (g := kv_up g 64 5 (g 64 5 + 1)) (s := m) (by first | exact d2 | (rw [kv_up_ne (by omega)]; exact d2)) a4 (nI k)) ?_
            refine kx_st 0 (pc' := 5) (L' := [some (.ref 65), some (.int (nI k)), some (.int b), none]) (st' := [.int (kx_b (0 ≤ nI k ∧ nI k < nI m))]) (h' := kv_wd (kv_up g 64 5 (g 64 5 + 1)) w) rfl ?_
            refine kx_be (t := 18) rfl rfl (fun (m5 : ¬ (0 ≤ nI k ∧ nI k < nI m)) => ?_) (fun (m5 : (0 ≤ nI k ∧ nI k < nI m)) => ?_)
            · exact absurd hv m5
            · refine kx_st 0 (pc' := 8) (L' := [some (.ref 65), some (.int (nI k)), some (.int b), none]) (st' := []) (h' := kv_wd (kv_up g 64 5 (g 64 5 + 1)) w) rfl ?_
              refine kx_st 3 (pc' := 12) (L' := [some (.ref 65), some (.int (nI k)), some (.int b), none]) (st' := [.int 6, .int 0, .int b]) (h' := kv_wd (kv_up g 64 5 (g 64 5 + 1)) w) rfl ?_
              refine kx_call (z := 130) (as := [.int b, .int 0, .int 6]) (rest := []) (v := some (.int (kx_b (0 ≤ b ∧ b ≤ 6)))) (h1 := kv_wd (kv_up g 64 5 (g 64 5 + 1)) w) rfl (ev_in (d := 898) b 0 6) ?_
              refine kx_st 0 (pc' := 15) (L' := [some (.ref 65), some (.int (nI k)), some (.int b), none]) (st' := [.int (kx_b (0 ≤ b ∧ b ≤ 6))]) (h' := kv_wd (kv_up g 64 5 (g 64 5 + 1)) w) rfl ?_
              refine kx_bn (t := 25) rfl rfl (fun (m15 : (0 ≤ b ∧ b ≤ 6)) => ?_) (fun (m15 : ¬ (0 ≤ b ∧ b ≤ 6)) => ?_)
              · refine kx_st 3 (pc' := 28) (L' := [some (.ref 65), some (.int (nI k)), some (.int b), none]) (st' := [.int 0, .int (nI k), .ref 65]) (h' := kv_wd (kv_up g 64 5 (g 64 5 + 1)) w) rfl ?_
                refine kx_call (z := 136) (as := [.ref 65, .int (nI k), .int 0]) (rest := []) (v := some (.int 5)) (h1 := kv_wd (kv_up g 64 5 (g 64 5 + 1)) w) rfl (by have h_ := ev_its (E := E) (d := 898) (g := kv_up g 64 5 (g 64 5 + 1)) (w := w) k 0 (by omega); rw [show (kv_up g 64 5 (g 64 5 + 1)) 66 (26 + 9 * k + 0) = 5 from hx0] at h_; exact h_) ?_
                refine kx_st 0 (pc' := 31) (L' := [some (.ref 65), some (.int (nI k)), some (.int b), none]) (st' := [.int 5]) (h' := kv_wd (kv_up g 64 5 (g 64 5 + 1)) w) rfl ?_
                refine kx_st 2 (pc' := 33) (L' := [some (.ref 65), some (.int (nI k)), some (.int b), some (.int 5)]) (st' := [.int 5]) (h' := kv_wd (kv_up g 64 5 (g 64 5 + 1)) w) rfl ?_
                refine kx_st 1 (pc' := 36) (L' := [some (.ref 65), some (.int (nI k)), some (.int b), some (.int 5)]) (st' := []) (h' := kv_wd (kv_up g 64 5 (g 64 5 + 1)) w) rfl ?_
                refine kx_st 2 (pc' := 38) (L' := [some (.ref 65), some (.int (nI k)), some (.int b), some (.int 5)]) (st' := [.int b, .int 5]) (h' := kv_wd (kv_up g 64 5 (g 64 5 + 1)) w) rfl ?_
                refine kx_bi (t := 49) rfl rfl (fun (m38 : 5 = b) => ?_) (fun (m38 : ¬ (5 = b)) => ?_)
                · refine kx_st 1 (pc' := 50) (L' := [some (.ref 65), some (.int (nI k)), some (.int b), some (.int 5)]) (st' := [.int 5]) (h' := kv_wd (kv_up g 64 5 (g 64 5 + 1)) w) rfl ?_
                  refine kx_st 1 (pc' := 62) (L' := [some (.ref 65), some (.int (nI k)), some (.int b), some (.int 5)]) (st' := []) (h' := kv_wd (kv_up g 64 5 (g 64 5 + 1)) w) rfl ?_
                  refine kx_st 3 (pc' := 65) (L' := [some (.ref 65), some (.int (nI k)), some (.int b), some (.int 5)]) (st' := [.int 1, .int (nI k), .ref 65]) (h' := kv_wd (kv_up g 64 5 (g 64 5 + 1)) w) rfl ?_
                  refine kx_call (z := 136) (as := [.ref 65, .int (nI k), .int 1]) (rest := []) (v := some (.int ((kv_up g 64 5 (g 64 5 + 1)) 66 (26 + 9 * k + 1)))) (h1 := kv_wd (kv_up g 64 5 (g 64 5 + 1)) w) rfl (ev_its (d := 898) k 1 (by omega)) ?_
                  refine kx_st 0 (pc' := 68) (L' := [some (.ref 65), some (.int (nI k)), some (.int b), some (.int 5)]) (st' := [.int ((kv_up g 64 5 (g 64 5 + 1)) 66 (26 + 9 * k + 1))]) (h' := kv_wd (kv_up g 64 5 (g 64 5 + 1)) w) rfl ?_
                  refine kx_ret (v := some (.int ((kv_up g 64 5 (g 64 5 + 1)) 66 (26 + 9 * k + 1)))) rfl ?_
                  exfalso
                  grind
                · refine kx_st 0 (pc' := 41) (L' := [some (.ref 65), some (.int (nI k)), some (.int b), some (.int 5)]) (st' := []) (h' := kv_wd (kv_up g 64 5 (g 64 5 + 1)) w) rfl ?_
                  refine kx_st 1 (pc' := 42) (L' := [some (.ref 65), some (.int (nI k)), some (.int b), some (.int 5)]) (st' := [.int 5]) (h' := kv_wd (kv_up g 64 5 (g 64 5 + 1)) w) rfl ?_
                  refine kx_call (z := 153) (as := [.int 5]) (rest := []) (v := some (.int 2)) (h1 := kv_wd (kv_up g 64 5 (g 64 5 + 1)) w) rfl (ev_mabove_5 (d := 898)) ?_
                  refine kx_st 0 (pc' := 45) (L' := [some (.ref 65), some (.int (nI k)), some (.int b), some (.int 5)]) (st' := [.int 2]) (h' := kv_wd (kv_up g 64 5 (g 64 5 + 1)) w) rfl ?_
                  refine kx_st 3 (pc' := 33) (L' := [some (.ref 65), some (.int (nI k)), some (.int b), some (.int 2)]) (st' := [.int 2]) (h' := kv_wd (kv_up g 64 5 (g 64 5 + 1)) w) rfl ?_
                  refine kx_st 1 (pc' := 36) (L' := [some (.ref 65), some (.int (nI k)), some (.int b), some (.int 2)]) (st' := []) (h' := kv_wd (kv_up g 64 5 (g 64 5 + 1)) w) rfl ?_
                  refine kx_st 2 (pc' := 38) (L' := [some (.ref 65), some (.int (nI k)), some (.int b), some (.int 2)]) (st' := [.int b, .int 2]) (h' := kv_wd (kv_up g 64 5 (g 64 5 + 1)) w) rfl ?_
                  refine kx_bi (t := 49) rfl rfl (fun (m38_1 : 2 = b) => ?_) (fun (m38_1 : ¬ (2 = b)) => ?_)
                  · refine kx_st 1 (pc' := 50) (L' := [some (.ref 65), some (.int (nI k)), some (.int b), some (.int 2)]) (st' := [.int 2]) (h' := kv_wd (kv_up g 64 5 (g 64 5 + 1)) w) rfl ?_
                    refine kx_st 1 (pc' := 62) (L' := [some (.ref 65), some (.int (nI k)), some (.int b), some (.int 2)]) (st' := []) (h' := kv_wd (kv_up g 64 5 (g 64 5 + 1)) w) rfl ?_
                    refine kx_st 3 (pc' := 65) (L' := [some (.ref 65), some (.int (nI k)), some (.int b), some (.int 2)]) (st' := [.int 1, .int (nI k), .ref 65]) (h' := kv_wd (kv_up g 64 5 (g 64 5 + 1)) w) rfl ?_
                    refine kx_call (z := 136) (as := [.ref 65, .int (nI k), .int 1]) (rest := []) (v := some (.int ((kv_up g 64 5 (g 64 5 + 1)) 66 (26 + 9 * k + 1)))) (h1 := kv_wd (kv_up g 64 5 (g 64 5 + 1)) w) rfl (ev_its (d := 898) k 1 (by omega)) ?_
                    refine kx_st 0 (pc' := 68) (L' := [some (.ref 65), some (.int (nI k)), some (.int b), some (.int 2)]) (st' := [.int ((kv_up g 64 5 (g 64 5 + 1)) 66 (26 + 9 * k + 1))]) (h' := kv_wd (kv_up g 64 5 (g 64 5 + 1)) w) rfl ?_
                    refine kx_ret (v := some (.int ((kv_up g 64 5 (g 64 5 + 1)) 66 (26 + 9 * k + 1)))) rfl ?_
                    exfalso
                    grind
                  · refine kx_st 0 (pc' := 41) (L' := [some (.ref 65), some (.int (nI k)), some (.int b), some (.int 2)]) (st' := []) (h' := kv_wd (kv_up g 64 5 (g 64 5 + 1)) w) rfl ?_
                    refine kx_st 1 (pc' := 42) (L' := [some (.ref 65), some (.int (nI k)), some (.int b), some (.int 2)]) (st' := [.int 2]) (h' := kv_wd (kv_up g 64 5 (g 64 5 + 1)) w) rfl ?_
                    refine kx_call (z := 153) (as := [.int 2]) (rest := []) (v := some (.int 0)) (h1 := kv_wd (kv_up g 64 5 (g 64 5 + 1)) w) rfl (ev_mabove_2 (d := 898)) ?_
                    refine kx_st 0 (pc' := 45) (L' := [some (.ref 65), some (.int (nI k)), some (.int b), some (.int 2)]) (st' := [.int 0]) (h' := kv_wd (kv_up g 64 5 (g 64 5 + 1)) w) rfl ?_
                    refine kx_st 3 (pc' := 33) (L' := [some (.ref 65), some (.int (nI k)), some (.int b), some (.int 0)]) (st' := [.int 0]) (h' := kv_wd (kv_up g 64 5 (g 64 5 + 1)) w) rfl ?_
                    refine kx_st 1 (pc' := 36) (L' := [some (.ref 65), some (.int (nI k)), some (.int b), some (.int 0)]) (st' := []) (h' := kv_wd (kv_up g 64 5 (g 64 5 + 1)) w) rfl ?_
                    refine kx_st 2 (pc' := 38) (L' := [some (.ref 65), some (.int (nI k)), some (.int b), some (.int 0)]) (st' := [.int b, .int 0]) (h' := kv_wd (kv_up g 64 5 (g 64 5 + 1)) w) rfl ?_
                    refine kx_bi (t := 49) rfl rfl (fun (m38_2 : 0 = b) => ?_) (fun (m38_2 : ¬ (0 = b)) => ?_)
                    · refine kx_st 1 (pc' := 50) (L' := [some (.ref 65), some (.int (nI k)), some (.int b), some (.int 0)]) (st' := [.int 0]) (h' := kv_wd (kv_up g 64 5 (g 64 5 + 1)) w) rfl ?_
                      refine kx_st 1 (pc' := 62) (L' := [some (.ref 65), some (.int (nI k)), some (.int b), some (.int 0)]) (st' := []) (h' := kv_wd (kv_up g 64 5 (g 64 5 + 1)) w) rfl ?_
                      refine kx_st 3 (pc' := 65) (L' := [some (.ref 65), some (.int (nI k)), some (.int b), some (.int 0)]) (st' := [.int 1, .int (nI k), .ref 65]) (h' := kv_wd (kv_up g 64 5 (g 64 5 + 1)) w) rfl ?_
                      refine kx_call (z := 136) (as := [.ref 65, .int (nI k), .int 1]) (rest := []) (v := some (.int ((kv_up g 64 5 (g 64 5 + 1)) 66 (26 + 9 * k + 1)))) (h1 := kv_wd (kv_up g 64 5 (g 64 5 + 1)) w) rfl (ev_its (d := 898) k 1 (by omega)) ?_
                      refine kx_st 0 (pc' := 68) (L' := [some (.ref 65), some (.int (nI k)), some (.int b), some (.int 0)]) (st' := [.int ((kv_up g 64 5 (g 64 5 + 1)) 66 (26 + 9 * k + 1))]) (h' := kv_wd (kv_up g 64 5 (g 64 5 + 1)) w) rfl ?_
                      refine kx_ret (v := some (.int ((kv_up g 64 5 (g 64 5 + 1)) 66 (26 + 9 * k + 1)))) rfl ?_
                      exfalso
                      grind
                    · refine kx_st 0 (pc' := 41) (L' := [some (.ref 65), some (.int (nI k)), some (.int b), some (.int 0)]) (st' := []) (h' := kv_wd (kv_up g 64 5 (g 64 5 + 1)) w) rfl ?_
                      refine kx_st 1 (pc' := 42) (L' := [some (.ref 65), some (.int (nI k)), some (.int b), some (.int 0)]) (st' := [.int 0]) (h' := kv_wd (kv_up g 64 5 (g 64 5 + 1)) w) rfl ?_
                      refine kx_call (z := 153) (as := [.int 0]) (rest := []) (v := some (.int (-1))) (h1 := kv_wd (kv_up g 64 5 (g 64 5 + 1)) w) rfl (ev_mabove_0 (d := 898)) ?_
                      refine kx_st 0 (pc' := 45) (L' := [some (.ref 65), some (.int (nI k)), some (.int b), some (.int 0)]) (st' := [.int (-1)]) (h' := kv_wd (kv_up g 64 5 (g 64 5 + 1)) w) rfl ?_
                      refine kx_st 3 (pc' := 33) (L' := [some (.ref 65), some (.int (nI k)), some (.int b), some (.int (-1))]) (st' := [.int (-1)]) (h' := kv_wd (kv_up g 64 5 (g 64 5 + 1)) w) rfl ?_
                      refine kx_st 1 (pc' := 49) (L' := [some (.ref 65), some (.int (nI k)), some (.int b), some (.int (-1))]) (st' := []) (h' := kv_wd (kv_up g 64 5 (g 64 5 + 1)) w) rfl ?_
                      refine kx_st 1 (pc' := 50) (L' := [some (.ref 65), some (.int (nI k)), some (.int b), some (.int (-1))]) (st' := [.int (-1)]) (h' := kv_wd (kv_up g 64 5 (g 64 5 + 1)) w) rfl ?_
                      refine kx_st 1 (pc' := 53) (L' := [some (.ref 65), some (.int (nI k)), some (.int b), some (.int (-1))]) (st' := []) (h' := kv_wd (kv_up g 64 5 (g 64 5 + 1)) w) rfl ?_
                      refine kx_st 2 (pc' := 56) (L' := [some (.ref 65), some (.int (nI k)), some (.int b), some (.int (-1))]) (st' := [.int (-1000000005), .ref 65]) (h' := kv_wd (kv_up g 64 5 (g 64 5 + 1)) w) rfl ?_
                      refine kx_call (z := 131) (as := [.ref 65, .int (-1000000005)]) (rest := []) (v := some (.int (-1000000005))) (h1 := kv_wd (kv_up (kv_up g 64 5 (g 64 5 + 1)) 70 5 ((kv_up g 64 5 (g 64 5 + 1)) 70 5 + 1)) w) rfl (ev_errs (d := 898) (-1000000005) 5 (by decide) (by decide)) ?_
                      refine kx_st 0 (pc' := 59) (L' := [some (.ref 65), some (.int (nI k)), some (.int b), some (.int (-1))]) (st' := [.int (-1000000005)]) (h' := kv_wd (kv_up (kv_up g 64 5 (g 64 5 + 1)) 70 5 ((kv_up g 64 5 (g 64 5 + 1)) 70 5 + 1)) w) rfl ?_
                      refine kx_st 1 (pc' := 68) (L' := [some (.ref 65), some (.int (nI k)), some (.int b), some (.int (-1))]) (st' := [.int (-1000000005)]) (h' := kv_wd (kv_up (kv_up g 64 5 (g 64 5 + 1)) 70 5 ((kv_up g 64 5 (g 64 5 + 1)) 70 5 + 1)) w) rfl ?_
                      refine kx_ret (v := some (.int (-1000000005))) rfl ?_
                      exact ⟨rfl, _, _, rfl, kx_Rl_e hR⟩
              · exact absurd hw m15
          · refine kx_st 0 (pc' := 36) (L' := [some (.ref 0), some (.int (nI k)), some (.int b), some (.ref (14 + k))]) (st' := []) (h' := kv_wd g w) rfl ?_
            refine kx_st 1 (pc' := 37) (L' := [some (.ref 0), some (.int (nI k)), some (.int b), some (.ref (14 + k))]) (st' := [.ref (14 + k)]) (h' := kv_wd g w) rfl ?_
            refine kx_gf (i := 146) (k := 1) (v := .int (g (14 + k) 1)) rfl rfl (kv_kn_h hk8).1 ((kv_kn_h hk8).2 _ _) rfl ?_
            refine kx_st 1 (pc' := 48) (L' := [some (.ref 0), some (.int (nI k)), some (.int b), some (.ref (14 + k))]) (st' := [.int (g (14 + k) 1)]) (h' := kv_wd g w) rfl ?_
            refine kx_ret (v := some (.int (g (14 + k) 1))) rfl ?_
            refine ⟨_, _, _, rfl, rfl, ?_⟩
            refine kx_st 0 (pc' := 0) (L' := [some (.ref 65), some (.int (nI k)), some (.int b), none]) (st' := []) (h' := kv_wd g w) rfl ?_
            refine kx_st 2 (pc' := 2) (L' := [some (.ref 65), some (.int (nI k)), some (.int b), none]) (st' := [.int (nI k), .ref 65]) (h' := kv_wd g w) rfl ?_
            refine kx_call (z := 139) (as := [.ref 65, .int (nI k)]) (rest := []) (v := some (.int (kx_b (0 ≤ nI k ∧ nI k < nI m)))) (h1 := kv_wd g w) rfl (ev_mKnotS (d := 897) (g := g) (s := m) (by first | exact d2 | (rw [kv_up_ne (by omega)]; exact d2)) a4 (nI k)) ?_
            refine kx_st 0 (pc' := 5) (L' := [some (.ref 65), some (.int (nI k)), some (.int b), none]) (st' := [.int (kx_b (0 ≤ nI k ∧ nI k < nI m))]) (h' := kv_wd g w) rfl ?_
            refine kx_be (t := 18) rfl rfl (fun (m5 : ¬ (0 ≤ nI k ∧ nI k < nI m)) => ?_) (fun (m5 : (0 ≤ nI k ∧ nI k < nI m)) => ?_)
            · exact absurd hv m5
            · refine kx_st 0 (pc' := 8) (L' := [some (.ref 65), some (.int (nI k)), some (.int b), none]) (st' := []) (h' := kv_wd g w) rfl ?_
              refine kx_st 3 (pc' := 12) (L' := [some (.ref 65), some (.int (nI k)), some (.int b), none]) (st' := [.int 6, .int 0, .int b]) (h' := kv_wd g w) rfl ?_
              refine kx_call (z := 130) (as := [.int b, .int 0, .int 6]) (rest := []) (v := some (.int (kx_b (0 ≤ b ∧ b ≤ 6)))) (h1 := kv_wd g w) rfl (ev_in (d := 898) b 0 6) ?_
              refine kx_st 0 (pc' := 15) (L' := [some (.ref 65), some (.int (nI k)), some (.int b), none]) (st' := [.int (kx_b (0 ≤ b ∧ b ≤ 6))]) (h' := kv_wd g w) rfl ?_
              refine kx_bn (t := 25) rfl rfl (fun (m15 : (0 ≤ b ∧ b ≤ 6)) => ?_) (fun (m15 : ¬ (0 ≤ b ∧ b ≤ 6)) => ?_)
              · refine kx_st 3 (pc' := 28) (L' := [some (.ref 65), some (.int (nI k)), some (.int b), none]) (st' := [.int 0, .int (nI k), .ref 65]) (h' := kv_wd g w) rfl ?_
                refine kx_call (z := 136) (as := [.ref 65, .int (nI k), .int 0]) (rest := []) (v := some (.int 5)) (h1 := kv_wd g w) rfl (by have h_ := ev_its (E := E) (d := 898) (g := g) (w := w) k 0 (by omega); rw [show g 66 (26 + 9 * k + 0) = 5 from hx0] at h_; exact h_) ?_
                refine kx_st 0 (pc' := 31) (L' := [some (.ref 65), some (.int (nI k)), some (.int b), none]) (st' := [.int 5]) (h' := kv_wd g w) rfl ?_
                refine kx_st 2 (pc' := 33) (L' := [some (.ref 65), some (.int (nI k)), some (.int b), some (.int 5)]) (st' := [.int 5]) (h' := kv_wd g w) rfl ?_
                refine kx_st 1 (pc' := 36) (L' := [some (.ref 65), some (.int (nI k)), some (.int b), some (.int 5)]) (st' := []) (h' := kv_wd g w) rfl ?_
                refine kx_st 2 (pc' := 38) (L' := [some (.ref 65), some (.int (nI k)), some (.int b), some (.int 5)]) (st' := [.int b, .int 5]) (h' := kv_wd g w) rfl ?_
                refine kx_bi (t := 49) rfl rfl (fun (m38 : 5 = b) => ?_) (fun (m38 : ¬ (5 = b)) => ?_)
                · refine kx_st 1 (pc' := 50) (L' := [some (.ref 65), some (.int (nI k)), some (.int b), some (.int 5)]) (st' := [.int 5]) (h' := kv_wd g w) rfl ?_
                  refine kx_st 1 (pc' := 62) (L' := [some (.ref 65), some (.int (nI k)), some (.int b), some (.int 5)]) (st' := []) (h' := kv_wd g w) rfl ?_
                  refine kx_st 3 (pc' := 65) (L' := [some (.ref 65), some (.int (nI k)), some (.int b), some (.int 5)]) (st' := [.int 1, .int (nI k), .ref 65]) (h' := kv_wd g w) rfl ?_
                  refine kx_call (z := 136) (as := [.ref 65, .int (nI k), .int 1]) (rest := []) (v := some (.int (g 66 (26 + 9 * k + 1)))) (h1 := kv_wd g w) rfl (ev_its (d := 898) k 1 (by omega)) ?_
                  refine kx_st 0 (pc' := 68) (L' := [some (.ref 65), some (.int (nI k)), some (.int b), some (.int 5)]) (st' := [.int (g 66 (26 + 9 * k + 1))]) (h' := kv_wd g w) rfl ?_
                  refine kx_ret (v := some (.int (g 66 (26 + 9 * k + 1)))) rfl ?_
                  exact ⟨congrArg (fun z => some (Value.int z)) (kf 1 (by omega)).symm, _, _, rfl, kx_Rl_skip lr g w i hR⟩
                · refine kx_st 0 (pc' := 41) (L' := [some (.ref 65), some (.int (nI k)), some (.int b), some (.int 5)]) (st' := []) (h' := kv_wd g w) rfl ?_
                  refine kx_st 1 (pc' := 42) (L' := [some (.ref 65), some (.int (nI k)), some (.int b), some (.int 5)]) (st' := [.int 5]) (h' := kv_wd g w) rfl ?_
                  refine kx_call (z := 153) (as := [.int 5]) (rest := []) (v := some (.int 2)) (h1 := kv_wd g w) rfl (ev_mabove_5 (d := 898)) ?_
                  refine kx_st 0 (pc' := 45) (L' := [some (.ref 65), some (.int (nI k)), some (.int b), some (.int 5)]) (st' := [.int 2]) (h' := kv_wd g w) rfl ?_
                  refine kx_st 3 (pc' := 33) (L' := [some (.ref 65), some (.int (nI k)), some (.int b), some (.int 2)]) (st' := [.int 2]) (h' := kv_wd g w) rfl ?_
                  refine kx_st 1 (pc' := 36) (L' := [some (.ref 65), some (.int (nI k)), some (.int b), some (.int 2)]) (st' := []) (h' := kv_wd g w) rfl ?_
                  refine kx_st 2 (pc' := 38) (L' := [some (.ref 65), some (.int (nI k)), some (.int b), some (.int 2)]) (st' := [.int b, .int 2]) (h' := kv_wd g w) rfl ?_
                  refine kx_bi (t := 49) rfl rfl (fun (m38_1 : 2 = b) => ?_) (fun (m38_1 : ¬ (2 = b)) => ?_)
                  · refine kx_st 1 (pc' := 50) (L' := [some (.ref 65), some (.int (nI k)), some (.int b), some (.int 2)]) (st' := [.int 2]) (h' := kv_wd g w) rfl ?_
                    refine kx_st 1 (pc' := 62) (L' := [some (.ref 65), some (.int (nI k)), some (.int b), some (.int 2)]) (st' := []) (h' := kv_wd g w) rfl ?_
                    refine kx_st 3 (pc' := 65) (L' := [some (.ref 65), some (.int (nI k)), some (.int b), some (.int 2)]) (st' := [.int 1, .int (nI k), .ref 65]) (h' := kv_wd g w) rfl ?_
                    refine kx_call (z := 136) (as := [.ref 65, .int (nI k), .int 1]) (rest := []) (v := some (.int (g 66 (26 + 9 * k + 1)))) (h1 := kv_wd g w) rfl (ev_its (d := 898) k 1 (by omega)) ?_
                    refine kx_st 0 (pc' := 68) (L' := [some (.ref 65), some (.int (nI k)), some (.int b), some (.int 2)]) (st' := [.int (g 66 (26 + 9 * k + 1))]) (h' := kv_wd g w) rfl ?_
                    refine kx_ret (v := some (.int (g 66 (26 + 9 * k + 1)))) rfl ?_
                    exact ⟨congrArg (fun z => some (Value.int z)) (kf 1 (by omega)).symm, _, _, rfl, kx_Rl_skip lr g w i hR⟩
                  · refine kx_st 0 (pc' := 41) (L' := [some (.ref 65), some (.int (nI k)), some (.int b), some (.int 2)]) (st' := []) (h' := kv_wd g w) rfl ?_
                    refine kx_st 1 (pc' := 42) (L' := [some (.ref 65), some (.int (nI k)), some (.int b), some (.int 2)]) (st' := [.int 2]) (h' := kv_wd g w) rfl ?_
                    refine kx_call (z := 153) (as := [.int 2]) (rest := []) (v := some (.int 0)) (h1 := kv_wd g w) rfl (ev_mabove_2 (d := 898)) ?_
                    refine kx_st 0 (pc' := 45) (L' := [some (.ref 65), some (.int (nI k)), some (.int b), some (.int 2)]) (st' := [.int 0]) (h' := kv_wd g w) rfl ?_
                    refine kx_st 3 (pc' := 33) (L' := [some (.ref 65), some (.int (nI k)), some (.int b), some (.int 0)]) (st' := [.int 0]) (h' := kv_wd g w) rfl ?_
                    refine kx_st 1 (pc' := 36) (L' := [some (.ref 65), some (.int (nI k)), some (.int b), some (.int 0)]) (st' := []) (h' := kv_wd g w) rfl ?_
                    refine kx_st 2 (pc' := 38) (L' := [some (.ref 65), some (.int (nI k)), some (.int b), some (.int 0)]) (st' := [.int b, .int 0]) (h' := kv_wd g w) rfl ?_
                    refine kx_bi (t := 49) rfl rfl (fun (m38_2 : 0 = b) => ?_) (fun (m38_2 : ¬ (0 = b)) => ?_)
                    · refine kx_st 1 (pc' := 50) (L' := [some (.ref 65), some (.int (nI k)), some (.int b), some (.int 0)]) (st' := [.int 0]) (h' := kv_wd g w) rfl ?_
                      refine kx_st 1 (pc' := 62) (L' := [some (.ref 65), some (.int (nI k)), some (.int b), some (.int 0)]) (st' := []) (h' := kv_wd g w) rfl ?_
                      refine kx_st 3 (pc' := 65) (L' := [some (.ref 65), some (.int (nI k)), some (.int b), some (.int 0)]) (st' := [.int 1, .int (nI k), .ref 65]) (h' := kv_wd g w) rfl ?_
                      refine kx_call (z := 136) (as := [.ref 65, .int (nI k), .int 1]) (rest := []) (v := some (.int (g 66 (26 + 9 * k + 1)))) (h1 := kv_wd g w) rfl (ev_its (d := 898) k 1 (by omega)) ?_
                      refine kx_st 0 (pc' := 68) (L' := [some (.ref 65), some (.int (nI k)), some (.int b), some (.int 0)]) (st' := [.int (g 66 (26 + 9 * k + 1))]) (h' := kv_wd g w) rfl ?_
                      refine kx_ret (v := some (.int (g 66 (26 + 9 * k + 1)))) rfl ?_
                      exact ⟨congrArg (fun z => some (Value.int z)) (kf 1 (by omega)).symm, _, _, rfl, kx_Rl_skip lr g w i hR⟩
                    · refine kx_st 0 (pc' := 41) (L' := [some (.ref 65), some (.int (nI k)), some (.int b), some (.int 0)]) (st' := []) (h' := kv_wd g w) rfl ?_
                      refine kx_st 1 (pc' := 42) (L' := [some (.ref 65), some (.int (nI k)), some (.int b), some (.int 0)]) (st' := [.int 0]) (h' := kv_wd g w) rfl ?_
                      refine kx_call (z := 153) (as := [.int 0]) (rest := []) (v := some (.int (-1))) (h1 := kv_wd g w) rfl (ev_mabove_0 (d := 898)) ?_
                      refine kx_st 0 (pc' := 45) (L' := [some (.ref 65), some (.int (nI k)), some (.int b), some (.int 0)]) (st' := [.int (-1)]) (h' := kv_wd g w) rfl ?_
                      refine kx_st 3 (pc' := 33) (L' := [some (.ref 65), some (.int (nI k)), some (.int b), some (.int (-1))]) (st' := [.int (-1)]) (h' := kv_wd g w) rfl ?_
                      refine kx_st 1 (pc' := 49) (L' := [some (.ref 65), some (.int (nI k)), some (.int b), some (.int (-1))]) (st' := []) (h' := kv_wd g w) rfl ?_
                      refine kx_st 1 (pc' := 50) (L' := [some (.ref 65), some (.int (nI k)), some (.int b), some (.int (-1))]) (st' := [.int (-1)]) (h' := kv_wd g w) rfl ?_
                      refine kx_st 1 (pc' := 53) (L' := [some (.ref 65), some (.int (nI k)), some (.int b), some (.int (-1))]) (st' := []) (h' := kv_wd g w) rfl ?_
                      refine kx_st 2 (pc' := 56) (L' := [some (.ref 65), some (.int (nI k)), some (.int b), some (.int (-1))]) (st' := [.int (-1000000005), .ref 65]) (h' := kv_wd g w) rfl ?_
                      refine kx_call (z := 131) (as := [.ref 65, .int (-1000000005)]) (rest := []) (v := some (.int (-1000000005))) (h1 := kv_wd (kv_up g 70 5 (g 70 5 + 1)) w) rfl (ev_errs (d := 898) (-1000000005) 5 (by decide) (by decide)) ?_
                      refine kx_st 0 (pc' := 59) (L' := [some (.ref 65), some (.int (nI k)), some (.int b), some (.int (-1))]) (st' := [.int (-1000000005)]) (h' := kv_wd (kv_up g 70 5 (g 70 5 + 1)) w) rfl ?_
                      refine kx_st 1 (pc' := 68) (L' := [some (.ref 65), some (.int (nI k)), some (.int b), some (.int (-1))]) (st' := [.int (-1000000005)]) (h' := kv_wd (kv_up g 70 5 (g 70 5 + 1)) w) rfl ?_
                      refine kx_ret (v := some (.int (-1000000005))) rfl ?_
                      exfalso
                      grind
              · exact absurd hw m15
        · exact absurd hw h19
      · refine kx_two (by decide) (Nat.le_of_ble_eq_true rfl) (by decide) (Nat.le_of_ble_eq_true rfl) ?_
        refine kx_st 0 (pc' := 0) (L' := [some (.ref 0), some (.int (nI k)), some (.int b), none]) (st' := []) (h' := kv_wd g w) rfl ?_
        refine kx_st 3 (pc' := 5) (L' := [some (.ref 0), some (.int (nI k)), some (.int b), none]) (st' := [.int (nI k), .ref 1]) (h' := kv_wd g w) rfl ?_
        refine kx_call (z := 17) (as := [.ref 1, .int (nI k)]) (rest := []) (v := some (.ref (14 + k))) (h1 := kv_wd g w) rfl (ev_knotAt (d := 898) (g := g) q k hk8 hkn) ?_
        refine kx_st 0 (pc' := 8) (L' := [some (.ref 0), some (.int (nI k)), some (.int b), none]) (st' := [.ref (14 + k)]) (h' := kv_wd g w) rfl ?_
        refine kx_st 2 (pc' := 10) (L' := [some (.ref 0), some (.int (nI k)), some (.int b), some (.ref (14 + k))]) (st' := [.ref (14 + k)]) (h' := kv_wd g w) rfl ?_
        refine kx_st 1 (pc' := 13) (L' := [some (.ref 0), some (.int (nI k)), some (.int b), some (.ref (14 + k))]) (st' := []) (h' := kv_wd g w) rfl ?_
        refine kx_st 2 (pc' := 16) (L' := [some (.ref 0), some (.int (nI k)), some (.int b), some (.ref (14 + k))]) (st' := [.int 6, .int b]) (h' := kv_wd g w) rfl ?_
        refine kx_call (z := 124) (as := [.int b, .int 6]) (rest := []) (v := some (.int (kx_b (0 ≤ b ∧ b ≤ 6)))) (h1 := kv_wd g w) rfl (ev_within (d := 898) b 6) ?_
        refine kx_st 0 (pc' := 19) (L' := [some (.ref 0), some (.int (nI k)), some (.int b), some (.ref (14 + k))]) (st' := [.int (kx_b (0 ≤ b ∧ b ≤ 6))]) (h' := kv_wd g w) rfl ?_
        refine kx_bn (t := 28) rfl rfl (fun (h19 : (0 ≤ b ∧ b ≤ 6)) => ?_) (fun (h19 : ¬ (0 ≤ b ∧ b ≤ 6)) => ?_)
        · refine kx_st 2 (pc' := 30) (L' := [some (.ref 0), some (.int (nI k)), some (.int b), some (.ref (14 + k))]) (st' := [.int b, .ref (14 + k)]) (h' := kv_wd g w) rfl ?_
          refine kx_call (z := 29) (as := [.ref (14 + k), .int b]) (rest := []) (v := some (.int (kx_b (6 = b ∨ 3 = b ∨ 0 = b)))) (h1 := kv_wd g w) (kx_cv (b := 14 + k) (A := [.int b]) (rest := []) rfl rfl rfl rfl (Nat.le_of_ble_eq_true rfl) (kv_kn_h hk8).1 ((kv_kn_h hk8).2 _ _)) (ev_isOf_6 (d := 897) hE k hk8 ((kf 0 (by omega)).trans hx0) b) ?_
          refine kx_st 0 (pc' := 33) (L' := [some (.ref 0), some (.int (nI k)), some (.int b), some (.ref (14 + k))]) (st' := [.int (kx_b (6 = b ∨ 3 = b ∨ 0 = b))]) (h' := kv_wd g w) rfl ?_
          refine kx_be (t := 43) rfl rfl (fun (h33 : ¬ (6 = b ∨ 3 = b ∨ 0 = b)) => ?_) (fun (h33 : (6 = b ∨ 3 = b ∨ 0 = b)) => ?_)
          · refine kx_st 2 (pc' := 45) (L' := [some (.ref 0), some (.int (nI k)), some (.int b), some (.ref (14 + k))]) (st' := [.int 5, .ref 0]) (h' := kv_wd g w) rfl ?_
            refine kx_call (z := 123) (as := [.ref 0, .int 5]) (rest := []) (v := some (.int (-1000000000 - nI 5))) (h1 := kv_wd (kv_up g 64 5 (g 64 5 + 1)) w) rfl (ev_error (d := 898) 5 (by decide) (by decide)) ?_
            refine kx_st 0 (pc' := 48) (L' := [some (.ref 0), some (.int (nI k)), some (.int b), some (.ref (14 + k))]) (st' := [.int (-1000000000 - nI 5)]) (h' := kv_wd (kv_up g 64 5 (g 64 5 + 1)) w) rfl ?_
            refine kx_ret (v := some (.int (-1000000000 - nI 5))) rfl ?_
            refine ⟨_, _, _, rfl, rfl, ?_⟩
            refine kx_st 0 (pc' := 0) (L' := [some (.ref 65), some (.int (nI k)), some (.int b), none]) (st' := []) (h' := kv_wd (kv_up g 64 5 (g 64 5 + 1)) w) rfl ?_
            refine kx_st 2 (pc' := 2) (L' := [some (.ref 65), some (.int (nI k)), some (.int b), none]) (st' := [.int (nI k), .ref 65]) (h' := kv_wd (kv_up g 64 5 (g 64 5 + 1)) w) rfl ?_
            refine kx_call (z := 139) (as := [.ref 65, .int (nI k)]) (rest := []) (v := some (.int (kx_b (0 ≤ nI k ∧ nI k < nI m)))) (h1 := kv_wd (kv_up g 64 5 (g 64 5 + 1)) w) rfl (ev_mKnotS (d := 897) (g := kv_up g 64 5 (g 64 5 + 1)) (s := m) (by first | exact d2 | (rw [kv_up_ne (by omega)]; exact d2)) a4 (nI k)) ?_
            refine kx_st 0 (pc' := 5) (L' := [some (.ref 65), some (.int (nI k)), some (.int b), none]) (st' := [.int (kx_b (0 ≤ nI k ∧ nI k < nI m))]) (h' := kv_wd (kv_up g 64 5 (g 64 5 + 1)) w) rfl ?_
            refine kx_be (t := 18) rfl rfl (fun (m5 : ¬ (0 ≤ nI k ∧ nI k < nI m)) => ?_) (fun (m5 : (0 ≤ nI k ∧ nI k < nI m)) => ?_)
            · exact absurd hv m5
            · refine kx_st 0 (pc' := 8) (L' := [some (.ref 65), some (.int (nI k)), some (.int b), none]) (st' := []) (h' := kv_wd (kv_up g 64 5 (g 64 5 + 1)) w) rfl ?_
              refine kx_st 3 (pc' := 12) (L' := [some (.ref 65), some (.int (nI k)), some (.int b), none]) (st' := [.int 6, .int 0, .int b]) (h' := kv_wd (kv_up g 64 5 (g 64 5 + 1)) w) rfl ?_
              refine kx_call (z := 130) (as := [.int b, .int 0, .int 6]) (rest := []) (v := some (.int (kx_b (0 ≤ b ∧ b ≤ 6)))) (h1 := kv_wd (kv_up g 64 5 (g 64 5 + 1)) w) rfl (ev_in (d := 898) b 0 6) ?_
              refine kx_st 0 (pc' := 15) (L' := [some (.ref 65), some (.int (nI k)), some (.int b), none]) (st' := [.int (kx_b (0 ≤ b ∧ b ≤ 6))]) (h' := kv_wd (kv_up g 64 5 (g 64 5 + 1)) w) rfl ?_
              refine kx_bn (t := 25) rfl rfl (fun (m15 : (0 ≤ b ∧ b ≤ 6)) => ?_) (fun (m15 : ¬ (0 ≤ b ∧ b ≤ 6)) => ?_)
              · refine kx_st 3 (pc' := 28) (L' := [some (.ref 65), some (.int (nI k)), some (.int b), none]) (st' := [.int 0, .int (nI k), .ref 65]) (h' := kv_wd (kv_up g 64 5 (g 64 5 + 1)) w) rfl ?_
                refine kx_call (z := 136) (as := [.ref 65, .int (nI k), .int 0]) (rest := []) (v := some (.int 6)) (h1 := kv_wd (kv_up g 64 5 (g 64 5 + 1)) w) rfl (by have h_ := ev_its (E := E) (d := 898) (g := kv_up g 64 5 (g 64 5 + 1)) (w := w) k 0 (by omega); rw [show (kv_up g 64 5 (g 64 5 + 1)) 66 (26 + 9 * k + 0) = 6 from hx0] at h_; exact h_) ?_
                refine kx_st 0 (pc' := 31) (L' := [some (.ref 65), some (.int (nI k)), some (.int b), none]) (st' := [.int 6]) (h' := kv_wd (kv_up g 64 5 (g 64 5 + 1)) w) rfl ?_
                refine kx_st 2 (pc' := 33) (L' := [some (.ref 65), some (.int (nI k)), some (.int b), some (.int 6)]) (st' := [.int 6]) (h' := kv_wd (kv_up g 64 5 (g 64 5 + 1)) w) rfl ?_
                refine kx_st 1 (pc' := 36) (L' := [some (.ref 65), some (.int (nI k)), some (.int b), some (.int 6)]) (st' := []) (h' := kv_wd (kv_up g 64 5 (g 64 5 + 1)) w) rfl ?_
                refine kx_st 2 (pc' := 38) (L' := [some (.ref 65), some (.int (nI k)), some (.int b), some (.int 6)]) (st' := [.int b, .int 6]) (h' := kv_wd (kv_up g 64 5 (g 64 5 + 1)) w) rfl ?_
                refine kx_bi (t := 49) rfl rfl (fun (m38 : 6 = b) => ?_) (fun (m38 : ¬ (6 = b)) => ?_)
                · refine kx_st 1 (pc' := 50) (L' := [some (.ref 65), some (.int (nI k)), some (.int b), some (.int 6)]) (st' := [.int 6]) (h' := kv_wd (kv_up g 64 5 (g 64 5 + 1)) w) rfl ?_
                  refine kx_st 1 (pc' := 62) (L' := [some (.ref 65), some (.int (nI k)), some (.int b), some (.int 6)]) (st' := []) (h' := kv_wd (kv_up g 64 5 (g 64 5 + 1)) w) rfl ?_
                  refine kx_st 3 (pc' := 65) (L' := [some (.ref 65), some (.int (nI k)), some (.int b), some (.int 6)]) (st' := [.int 1, .int (nI k), .ref 65]) (h' := kv_wd (kv_up g 64 5 (g 64 5 + 1)) w) rfl ?_
                  refine kx_call (z := 136) (as := [.ref 65, .int (nI k), .int 1]) (rest := []) (v := some (.int ((kv_up g 64 5 (g 64 5 + 1)) 66 (26 + 9 * k + 1)))) (h1 := kv_wd (kv_up g 64 5 (g 64 5 + 1)) w) rfl (ev_its (d := 898) k 1 (by omega)) ?_
                  refine kx_st 0 (pc' := 68) (L' := [some (.ref 65), some (.int (nI k)), some (.int b), some (.int 6)]) (st' := [.int ((kv_up g 64 5 (g 64 5 + 1)) 66 (26 + 9 * k + 1))]) (h' := kv_wd (kv_up g 64 5 (g 64 5 + 1)) w) rfl ?_
                  refine kx_ret (v := some (.int ((kv_up g 64 5 (g 64 5 + 1)) 66 (26 + 9 * k + 1)))) rfl ?_
                  exfalso
                  grind
                · refine kx_st 0 (pc' := 41) (L' := [some (.ref 65), some (.int (nI k)), some (.int b), some (.int 6)]) (st' := []) (h' := kv_wd (kv_up g 64 5 (g 64 5 + 1)) w) rfl ?_
                  refine kx_st 1 (pc' := 42) (L' := [some (.ref 65), some (.int (nI k)), some (.int b), some (.int 6)]) (st' := [.int 6]) (h' := kv_wd (kv_up g 64 5 (g 64 5 + 1)) w) rfl ?_
                  refine kx_call (z := 153) (as := [.int 6]) (rest := []) (v := some (.int 3)) (h1 := kv_wd (kv_up g 64 5 (g 64 5 + 1)) w) rfl (ev_mabove_6 (d := 898)) ?_
                  refine kx_st 0 (pc' := 45) (L' := [some (.ref 65), some (.int (nI k)), some (.int b), some (.int 6)]) (st' := [.int 3]) (h' := kv_wd (kv_up g 64 5 (g 64 5 + 1)) w) rfl ?_
                  refine kx_st 3 (pc' := 33) (L' := [some (.ref 65), some (.int (nI k)), some (.int b), some (.int 3)]) (st' := [.int 3]) (h' := kv_wd (kv_up g 64 5 (g 64 5 + 1)) w) rfl ?_
                  refine kx_st 1 (pc' := 36) (L' := [some (.ref 65), some (.int (nI k)), some (.int b), some (.int 3)]) (st' := []) (h' := kv_wd (kv_up g 64 5 (g 64 5 + 1)) w) rfl ?_
                  refine kx_st 2 (pc' := 38) (L' := [some (.ref 65), some (.int (nI k)), some (.int b), some (.int 3)]) (st' := [.int b, .int 3]) (h' := kv_wd (kv_up g 64 5 (g 64 5 + 1)) w) rfl ?_
                  refine kx_bi (t := 49) rfl rfl (fun (m38_1 : 3 = b) => ?_) (fun (m38_1 : ¬ (3 = b)) => ?_)
                  · refine kx_st 1 (pc' := 50) (L' := [some (.ref 65), some (.int (nI k)), some (.int b), some (.int 3)]) (st' := [.int 3]) (h' := kv_wd (kv_up g 64 5 (g 64 5 + 1)) w) rfl ?_
                    refine kx_st 1 (pc' := 62) (L' := [some (.ref 65), some (.int (nI k)), some (.int b), some (.int 3)]) (st' := []) (h' := kv_wd (kv_up g 64 5 (g 64 5 + 1)) w) rfl ?_
                    refine kx_st 3 (pc' := 65) (L' := [some (.ref 65), some (.int (nI k)), some (.int b), some (.int 3)]) (st' := [.int 1, .int (nI k), .ref 65]) (h' := kv_wd (kv_up g 64 5 (g 64 5 + 1)) w) rfl ?_
                    refine kx_call (z := 136) (as := [.ref 65, .int (nI k), .int 1]) (rest := []) (v := some (.int ((kv_up g 64 5 (g 64 5 + 1)) 66 (26 + 9 * k + 1)))) (h1 := kv_wd (kv_up g 64 5 (g 64 5 + 1)) w) rfl (ev_its (d := 898) k 1 (by omega)) ?_
                    refine kx_st 0 (pc' := 68) (L' := [some (.ref 65), some (.int (nI k)), some (.int b), some (.int 3)]) (st' := [.int ((kv_up g 64 5 (g 64 5 + 1)) 66 (26 + 9 * k + 1))]) (h' := kv_wd (kv_up g 64 5 (g 64 5 + 1)) w) rfl ?_
                    refine kx_ret (v := some (.int ((kv_up g 64 5 (g 64 5 + 1)) 66 (26 + 9 * k + 1)))) rfl ?_
                    exfalso
                    grind
                  · refine kx_st 0 (pc' := 41) (L' := [some (.ref 65), some (.int (nI k)), some (.int b), some (.int 3)]) (st' := []) (h' := kv_wd (kv_up g 64 5 (g 64 5 + 1)) w) rfl ?_
                    refine kx_st 1 (pc' := 42) (L' := [some (.ref 65), some (.int (nI k)), some (.int b), some (.int 3)]) (st' := [.int 3]) (h' := kv_wd (kv_up g 64 5 (g 64 5 + 1)) w) rfl ?_
                    refine kx_call (z := 153) (as := [.int 3]) (rest := []) (v := some (.int 0)) (h1 := kv_wd (kv_up g 64 5 (g 64 5 + 1)) w) rfl (ev_mabove_3 (d := 898)) ?_
                    refine kx_st 0 (pc' := 45) (L' := [some (.ref 65), some (.int (nI k)), some (.int b), some (.int 3)]) (st' := [.int 0]) (h' := kv_wd (kv_up g 64 5 (g 64 5 + 1)) w) rfl ?_
                    refine kx_st 3 (pc' := 33) (L' := [some (.ref 65), some (.int (nI k)), some (.int b), some (.int 0)]) (st' := [.int 0]) (h' := kv_wd (kv_up g 64 5 (g 64 5 + 1)) w) rfl ?_
                    refine kx_st 1 (pc' := 36) (L' := [some (.ref 65), some (.int (nI k)), some (.int b), some (.int 0)]) (st' := []) (h' := kv_wd (kv_up g 64 5 (g 64 5 + 1)) w) rfl ?_
                    refine kx_st 2 (pc' := 38) (L' := [some (.ref 65), some (.int (nI k)), some (.int b), some (.int 0)]) (st' := [.int b, .int 0]) (h' := kv_wd (kv_up g 64 5 (g 64 5 + 1)) w) rfl ?_
                    refine kx_bi (t := 49) rfl rfl (fun (m38_2 : 0 = b) => ?_) (fun (m38_2 : ¬ (0 = b)) => ?_)
                    · refine kx_st 1 (pc' := 50) (L' := [some (.ref 65), some (.int (nI k)), some (.int b), some (.int 0)]) (st' := [.int 0]) (h' := kv_wd (kv_up g 64 5 (g 64 5 + 1)) w) rfl ?_
                      refine kx_st 1 (pc' := 62) (L' := [some (.ref 65), some (.int (nI k)), some (.int b), some (.int 0)]) (st' := []) (h' := kv_wd (kv_up g 64 5 (g 64 5 + 1)) w) rfl ?_
                      refine kx_st 3 (pc' := 65) (L' := [some (.ref 65), some (.int (nI k)), some (.int b), some (.int 0)]) (st' := [.int 1, .int (nI k), .ref 65]) (h' := kv_wd (kv_up g 64 5 (g 64 5 + 1)) w) rfl ?_
                      refine kx_call (z := 136) (as := [.ref 65, .int (nI k), .int 1]) (rest := []) (v := some (.int ((kv_up g 64 5 (g 64 5 + 1)) 66 (26 + 9 * k + 1)))) (h1 := kv_wd (kv_up g 64 5 (g 64 5 + 1)) w) rfl (ev_its (d := 898) k 1 (by omega)) ?_
                      refine kx_st 0 (pc' := 68) (L' := [some (.ref 65), some (.int (nI k)), some (.int b), some (.int 0)]) (st' := [.int ((kv_up g 64 5 (g 64 5 + 1)) 66 (26 + 9 * k + 1))]) (h' := kv_wd (kv_up g 64 5 (g 64 5 + 1)) w) rfl ?_
                      refine kx_ret (v := some (.int ((kv_up g 64 5 (g 64 5 + 1)) 66 (26 + 9 * k + 1)))) rfl ?_
                      exfalso
                      grind
                    · refine kx_st 0 (pc' := 41) (L' := [some (.ref 65), some (.int (nI k)), some (.int b), some (.int 0)]) (st' := []) (h' := kv_wd (kv_up g 64 5 (g 64 5 + 1)) w) rfl ?_
                      refine kx_st 1 (pc' := 42) (L' := [some (.ref 65), some (.int (nI k)), some (.int b), some (.int 0)]) (st' := [.int 0]) (h' := kv_wd (kv_up g 64 5 (g 64 5 + 1)) w) rfl ?_
                      refine kx_call (z := 153) (as := [.int 0]) (rest := []) (v := some (.int (-1))) (h1 := kv_wd (kv_up g 64 5 (g 64 5 + 1)) w) rfl (ev_mabove_0 (d := 898)) ?_
                      refine kx_st 0 (pc' := 45) (L' := [some (.ref 65), some (.int (nI k)), some (.int b), some (.int 0)]) (st' := [.int (-1)]) (h' := kv_wd (kv_up g 64 5 (g 64 5 + 1)) w) rfl ?_
                      refine kx_st 3 (pc' := 33) (L' := [some (.ref 65), some (.int (nI k)), some (.int b), some (.int (-1))]) (st' := [.int (-1)]) (h' := kv_wd (kv_up g 64 5 (g 64 5 + 1)) w) rfl ?_
                      refine kx_st 1 (pc' := 49) (L' := [some (.ref 65), some (.int (nI k)), some (.int b), some (.int (-1))]) (st' := []) (h' := kv_wd (kv_up g 64 5 (g 64 5 + 1)) w) rfl ?_
                      refine kx_st 1 (pc' := 50) (L' := [some (.ref 65), some (.int (nI k)), some (.int b), some (.int (-1))]) (st' := [.int (-1)]) (h' := kv_wd (kv_up g 64 5 (g 64 5 + 1)) w) rfl ?_
                      refine kx_st 1 (pc' := 53) (L' := [some (.ref 65), some (.int (nI k)), some (.int b), some (.int (-1))]) (st' := []) (h' := kv_wd (kv_up g 64 5 (g 64 5 + 1)) w) rfl ?_
                      refine kx_st 2 (pc' := 56) (L' := [some (.ref 65), some (.int (nI k)), some (.int b), some (.int (-1))]) (st' := [.int (-1000000005), .ref 65]) (h' := kv_wd (kv_up g 64 5 (g 64 5 + 1)) w) rfl ?_
                      refine kx_call (z := 131) (as := [.ref 65, .int (-1000000005)]) (rest := []) (v := some (.int (-1000000005))) (h1 := kv_wd (kv_up (kv_up g 64 5 (g 64 5 + 1)) 70 5 ((kv_up g 64 5 (g 64 5 + 1)) 70 5 + 1)) w) rfl (ev_errs (d := 898) (-1000000005) 5 (by decide) (by decide)) ?_
                      refine kx_st 0 (pc' := 59) (L' := [some (.ref 65), some (.int (nI k)), some (.int b), some (.int (-1))]) (st' := [.int (-1000000005)]) (h' := kv_wd (kv_up (kv_up g 64 5 (g 64 5 + 1)) 70 5 ((kv_up g 64 5 (g 64 5 + 1)) 70 5 + 1)) w) rfl ?_
                      refine kx_st 1 (pc' := 68) (L' := [some (.ref 65), some (.int (nI k)), some (.int b), some (.int (-1))]) (st' := [.int (-1000000005)]) (h' := kv_wd (kv_up (kv_up g 64 5 (g 64 5 + 1)) 70 5 ((kv_up g 64 5 (g 64 5 + 1)) 70 5 + 1)) w) rfl ?_
                      refine kx_ret (v := some (.int (-1000000005))) rfl ?_
                      exact ⟨rfl, _, _, rfl, kx_Rl_e hR⟩
              · exact absurd hw m15
          · refine kx_st 0 (pc' := 36) (L' := [some (.ref 0), some (.int (nI k)), some (.int b), some (.ref (14 + k))]) (st' := []) (h' := kv_wd g w) rfl ?_
            refine kx_st 1 (pc' := 37) (L' := [some (.ref 0), some (.int (nI k)), some (.int b), some (.ref (14 + k))]) (st' := [.ref (14 + k)]) (h' := kv_wd g w) rfl ?_
            refine kx_gf (i := 146) (k := 1) (v := .int (g (14 + k) 1)) rfl rfl (kv_kn_h hk8).1 ((kv_kn_h hk8).2 _ _) rfl ?_
            refine kx_st 1 (pc' := 48) (L' := [some (.ref 0), some (.int (nI k)), some (.int b), some (.ref (14 + k))]) (st' := [.int (g (14 + k) 1)]) (h' := kv_wd g w) rfl ?_
            refine kx_ret (v := some (.int (g (14 + k) 1))) rfl ?_
            refine ⟨_, _, _, rfl, rfl, ?_⟩
            refine kx_st 0 (pc' := 0) (L' := [some (.ref 65), some (.int (nI k)), some (.int b), none]) (st' := []) (h' := kv_wd g w) rfl ?_
            refine kx_st 2 (pc' := 2) (L' := [some (.ref 65), some (.int (nI k)), some (.int b), none]) (st' := [.int (nI k), .ref 65]) (h' := kv_wd g w) rfl ?_
            refine kx_call (z := 139) (as := [.ref 65, .int (nI k)]) (rest := []) (v := some (.int (kx_b (0 ≤ nI k ∧ nI k < nI m)))) (h1 := kv_wd g w) rfl (ev_mKnotS (d := 897) (g := g) (s := m) (by first | exact d2 | (rw [kv_up_ne (by omega)]; exact d2)) a4 (nI k)) ?_
            refine kx_st 0 (pc' := 5) (L' := [some (.ref 65), some (.int (nI k)), some (.int b), none]) (st' := [.int (kx_b (0 ≤ nI k ∧ nI k < nI m))]) (h' := kv_wd g w) rfl ?_
            refine kx_be (t := 18) rfl rfl (fun (m5 : ¬ (0 ≤ nI k ∧ nI k < nI m)) => ?_) (fun (m5 : (0 ≤ nI k ∧ nI k < nI m)) => ?_)
            · exact absurd hv m5
            · refine kx_st 0 (pc' := 8) (L' := [some (.ref 65), some (.int (nI k)), some (.int b), none]) (st' := []) (h' := kv_wd g w) rfl ?_
              refine kx_st 3 (pc' := 12) (L' := [some (.ref 65), some (.int (nI k)), some (.int b), none]) (st' := [.int 6, .int 0, .int b]) (h' := kv_wd g w) rfl ?_
              refine kx_call (z := 130) (as := [.int b, .int 0, .int 6]) (rest := []) (v := some (.int (kx_b (0 ≤ b ∧ b ≤ 6)))) (h1 := kv_wd g w) rfl (ev_in (d := 898) b 0 6) ?_
              refine kx_st 0 (pc' := 15) (L' := [some (.ref 65), some (.int (nI k)), some (.int b), none]) (st' := [.int (kx_b (0 ≤ b ∧ b ≤ 6))]) (h' := kv_wd g w) rfl ?_
              refine kx_bn (t := 25) rfl rfl (fun (m15 : (0 ≤ b ∧ b ≤ 6)) => ?_) (fun (m15 : ¬ (0 ≤ b ∧ b ≤ 6)) => ?_)
              · refine kx_st 3 (pc' := 28) (L' := [some (.ref 65), some (.int (nI k)), some (.int b), none]) (st' := [.int 0, .int (nI k), .ref 65]) (h' := kv_wd g w) rfl ?_
                refine kx_call (z := 136) (as := [.ref 65, .int (nI k), .int 0]) (rest := []) (v := some (.int 6)) (h1 := kv_wd g w) rfl (by have h_ := ev_its (E := E) (d := 898) (g := g) (w := w) k 0 (by omega); rw [show g 66 (26 + 9 * k + 0) = 6 from hx0] at h_; exact h_) ?_
                refine kx_st 0 (pc' := 31) (L' := [some (.ref 65), some (.int (nI k)), some (.int b), none]) (st' := [.int 6]) (h' := kv_wd g w) rfl ?_
                refine kx_st 2 (pc' := 33) (L' := [some (.ref 65), some (.int (nI k)), some (.int b), some (.int 6)]) (st' := [.int 6]) (h' := kv_wd g w) rfl ?_
                refine kx_st 1 (pc' := 36) (L' := [some (.ref 65), some (.int (nI k)), some (.int b), some (.int 6)]) (st' := []) (h' := kv_wd g w) rfl ?_
                refine kx_st 2 (pc' := 38) (L' := [some (.ref 65), some (.int (nI k)), some (.int b), some (.int 6)]) (st' := [.int b, .int 6]) (h' := kv_wd g w) rfl ?_
                refine kx_bi (t := 49) rfl rfl (fun (m38 : 6 = b) => ?_) (fun (m38 : ¬ (6 = b)) => ?_)
                · refine kx_st 1 (pc' := 50) (L' := [some (.ref 65), some (.int (nI k)), some (.int b), some (.int 6)]) (st' := [.int 6]) (h' := kv_wd g w) rfl ?_
                  refine kx_st 1 (pc' := 62) (L' := [some (.ref 65), some (.int (nI k)), some (.int b), some (.int 6)]) (st' := []) (h' := kv_wd g w) rfl ?_
                  refine kx_st 3 (pc' := 65) (L' := [some (.ref 65), some (.int (nI k)), some (.int b), some (.int 6)]) (st' := [.int 1, .int (nI k), .ref 65]) (h' := kv_wd g w) rfl ?_
                  refine kx_call (z := 136) (as := [.ref 65, .int (nI k), .int 1]) (rest := []) (v := some (.int (g 66 (26 + 9 * k + 1)))) (h1 := kv_wd g w) rfl (ev_its (d := 898) k 1 (by omega)) ?_
                  refine kx_st 0 (pc' := 68) (L' := [some (.ref 65), some (.int (nI k)), some (.int b), some (.int 6)]) (st' := [.int (g 66 (26 + 9 * k + 1))]) (h' := kv_wd g w) rfl ?_
                  refine kx_ret (v := some (.int (g 66 (26 + 9 * k + 1)))) rfl ?_
                  exact ⟨congrArg (fun z => some (Value.int z)) (kf 1 (by omega)).symm, _, _, rfl, kx_Rl_skip lr g w i hR⟩
                · refine kx_st 0 (pc' := 41) (L' := [some (.ref 65), some (.int (nI k)), some (.int b), some (.int 6)]) (st' := []) (h' := kv_wd g w) rfl ?_
                  refine kx_st 1 (pc' := 42) (L' := [some (.ref 65), some (.int (nI k)), some (.int b), some (.int 6)]) (st' := [.int 6]) (h' := kv_wd g w) rfl ?_
                  refine kx_call (z := 153) (as := [.int 6]) (rest := []) (v := some (.int 3)) (h1 := kv_wd g w) rfl (ev_mabove_6 (d := 898)) ?_
                  refine kx_st 0 (pc' := 45) (L' := [some (.ref 65), some (.int (nI k)), some (.int b), some (.int 6)]) (st' := [.int 3]) (h' := kv_wd g w) rfl ?_
                  refine kx_st 3 (pc' := 33) (L' := [some (.ref 65), some (.int (nI k)), some (.int b), some (.int 3)]) (st' := [.int 3]) (h' := kv_wd g w) rfl ?_
                  refine kx_st 1 (pc' := 36) (L' := [some (.ref 65), some (.int (nI k)), some (.int b), some (.int 3)]) (st' := []) (h' := kv_wd g w) rfl ?_
                  refine kx_st 2 (pc' := 38) (L' := [some (.ref 65), some (.int (nI k)), some (.int b), some (.int 3)]) (st' := [.int b, .int 3]) (h' := kv_wd g w) rfl ?_
                  refine kx_bi (t := 49) rfl rfl (fun (m38_1 : 3 = b) => ?_) (fun (m38_1 : ¬ (3 = b)) => ?_)
                  · refine kx_st 1 (pc' := 50) (L' := [some (.ref 65), some (.int (nI k)), some (.int b), some (.int 3)]) (st' := [.int 3]) (h' := kv_wd g w) rfl ?_
                    refine kx_st 1 (pc' := 62) (L' := [some (.ref 65), some (.int (nI k)), some (.int b), some (.int 3)]) (st' := []) (h' := kv_wd g w) rfl ?_
                    refine kx_st 3 (pc' := 65) (L' := [some (.ref 65), some (.int (nI k)), some (.int b), some (.int 3)]) (st' := [.int 1, .int (nI k), .ref 65]) (h' := kv_wd g w) rfl ?_
                    refine kx_call (z := 136) (as := [.ref 65, .int (nI k), .int 1]) (rest := []) (v := some (.int (g 66 (26 + 9 * k + 1)))) (h1 := kv_wd g w) rfl (ev_its (d := 898) k 1 (by omega)) ?_
                    refine kx_st 0 (pc' := 68) (L' := [some (.ref 65), some (.int (nI k)), some (.int b), some (.int 3)]) (st' := [.int (g 66 (26 + 9 * k + 1))]) (h' := kv_wd g w) rfl ?_
                    refine kx_ret (v := some (.int (g 66 (26 + 9 * k + 1)))) rfl ?_
                    exact ⟨congrArg (fun z => some (Value.int z)) (kf 1 (by omega)).symm, _, _, rfl, kx_Rl_skip lr g w i hR⟩
                  · refine kx_st 0 (pc' := 41) (L' := [some (.ref 65), some (.int (nI k)), some (.int b), some (.int 3)]) (st' := []) (h' := kv_wd g w) rfl ?_
                    refine kx_st 1 (pc' := 42) (L' := [some (.ref 65), some (.int (nI k)), some (.int b), some (.int 3)]) (st' := [.int 3]) (h' := kv_wd g w) rfl ?_
                    refine kx_call (z := 153) (as := [.int 3]) (rest := []) (v := some (.int 0)) (h1 := kv_wd g w) rfl (ev_mabove_3 (d := 898)) ?_
                    refine kx_st 0 (pc' := 45) (L' := [some (.ref 65), some (.int (nI k)), some (.int b), some (.int 3)]) (st' := [.int 0]) (h' := kv_wd g w) rfl ?_
                    refine kx_st 3 (pc' := 33) (L' := [some (.ref 65), some (.int (nI k)), some (.int b), some (.int 0)]) (st' := [.int 0]) (h' := kv_wd g w) rfl ?_
                    refine kx_st 1 (pc' := 36) (L' := [some (.ref 65), some (.int (nI k)), some (.int b), some (.int 0)]) (st' := []) (h' := kv_wd g w) rfl ?_
                    refine kx_st 2 (pc' := 38) (L' := [some (.ref 65), some (.int (nI k)), some (.int b), some (.int 0)]) (st' := [.int b, .int 0]) (h' := kv_wd g w) rfl ?_
                    refine kx_bi (t := 49) rfl rfl (fun (m38_2 : 0 = b) => ?_) (fun (m38_2 : ¬ (0 = b)) => ?_)
                    · refine kx_st 1 (pc' := 50) (L' := [some (.ref 65), some (.int (nI k)), some (.int b), some (.int 0)]) (st' := [.int 0]) (h' := kv_wd g w) rfl ?_
                      refine kx_st 1 (pc' := 62) (L' := [some (.ref 65), some (.int (nI k)), some (.int b), some (.int 0)]) (st' := []) (h' := kv_wd g w) rfl ?_
                      refine kx_st 3 (pc' := 65) (L' := [some (.ref 65), some (.int (nI k)), some (.int b), some (.int 0)]) (st' := [.int 1, .int (nI k), .ref 65]) (h' := kv_wd g w) rfl ?_
                      refine kx_call (z := 136) (as := [.ref 65, .int (nI k), .int 1]) (rest := []) (v := some (.int (g 66 (26 + 9 * k + 1)))) (h1 := kv_wd g w) rfl (ev_its (d := 898) k 1 (by omega)) ?_
                      refine kx_st 0 (pc' := 68) (L' := [some (.ref 65), some (.int (nI k)), some (.int b), some (.int 0)]) (st' := [.int (g 66 (26 + 9 * k + 1))]) (h' := kv_wd g w) rfl ?_
                      refine kx_ret (v := some (.int (g 66 (26 + 9 * k + 1)))) rfl ?_
                      exact ⟨congrArg (fun z => some (Value.int z)) (kf 1 (by omega)).symm, _, _, rfl, kx_Rl_skip lr g w i hR⟩
                    · refine kx_st 0 (pc' := 41) (L' := [some (.ref 65), some (.int (nI k)), some (.int b), some (.int 0)]) (st' := []) (h' := kv_wd g w) rfl ?_
                      refine kx_st 1 (pc' := 42) (L' := [some (.ref 65), some (.int (nI k)), some (.int b), some (.int 0)]) (st' := [.int 0]) (h' := kv_wd g w) rfl ?_
                      refine kx_call (z := 153) (as := [.int 0]) (rest := []) (v := some (.int (-1))) (h1 := kv_wd g w) rfl (ev_mabove_0 (d := 898)) ?_
                      refine kx_st 0 (pc' := 45) (L' := [some (.ref 65), some (.int (nI k)), some (.int b), some (.int 0)]) (st' := [.int (-1)]) (h' := kv_wd g w) rfl ?_
                      refine kx_st 3 (pc' := 33) (L' := [some (.ref 65), some (.int (nI k)), some (.int b), some (.int (-1))]) (st' := [.int (-1)]) (h' := kv_wd g w) rfl ?_
                      refine kx_st 1 (pc' := 49) (L' := [some (.ref 65), some (.int (nI k)), some (.int b), some (.int (-1))]) (st' := []) (h' := kv_wd g w) rfl ?_
                      refine kx_st 1 (pc' := 50) (L' := [some (.ref 65), some (.int (nI k)), some (.int b), some (.int (-1))]) (st' := [.int (-1)]) (h' := kv_wd g w) rfl ?_
                      refine kx_st 1 (pc' := 53) (L' := [some (.ref 65), some (.int (nI k)), some (.int b), some (.int (-1))]) (st' := []) (h' := kv_wd g w) rfl ?_
                      refine kx_st 2 (pc' := 56) (L' := [some (.ref 65), some (.int (nI k)), some (.int b), some (.int (-1))]) (st' := [.int (-1000000005), .ref 65]) (h' := kv_wd g w) rfl ?_
                      refine kx_call (z := 131) (as := [.ref 65, .int (-1000000005)]) (rest := []) (v := some (.int (-1000000005))) (h1 := kv_wd (kv_up g 70 5 (g 70 5 + 1)) w) rfl (ev_errs (d := 898) (-1000000005) 5 (by decide) (by decide)) ?_
                      refine kx_st 0 (pc' := 59) (L' := [some (.ref 65), some (.int (nI k)), some (.int b), some (.int (-1))]) (st' := [.int (-1000000005)]) (h' := kv_wd (kv_up g 70 5 (g 70 5 + 1)) w) rfl ?_
                      refine kx_st 1 (pc' := 68) (L' := [some (.ref 65), some (.int (nI k)), some (.int b), some (.int (-1))]) (st' := [.int (-1000000005)]) (h' := kv_wd (kv_up g 70 5 (g 70 5 + 1)) w) rfl ?_
                      refine kx_ret (v := some (.int (-1000000005))) rfl ?_
                      exfalso
                      grind
              · exact absurd hw m15
        · exact absurd hw h19
    · refine kx_two (by decide) (Nat.le_of_ble_eq_true rfl) (by decide) (Nat.le_of_ble_eq_true rfl) ?_
      refine kx_st 0 (pc' := 0) (L' := [some (.ref 0), some (.int (nI k)), some (.int b), none]) (st' := []) (h' := kv_wd g w) rfl ?_
      refine kx_st 3 (pc' := 5) (L' := [some (.ref 0), some (.int (nI k)), some (.int b), none]) (st' := [.int (nI k), .ref 1]) (h' := kv_wd g w) rfl ?_
      refine kx_call (z := 17) (as := [.ref 1, .int (nI k)]) (rest := []) (v := some (.ref (14 + k))) (h1 := kv_wd g w) rfl (ev_knotAt (d := 898) (g := g) q k hk8 hkn) ?_
      refine kx_st 0 (pc' := 8) (L' := [some (.ref 0), some (.int (nI k)), some (.int b), none]) (st' := [.ref (14 + k)]) (h' := kv_wd g w) rfl ?_
      refine kx_st 2 (pc' := 10) (L' := [some (.ref 0), some (.int (nI k)), some (.int b), some (.ref (14 + k))]) (st' := [.ref (14 + k)]) (h' := kv_wd g w) rfl ?_
      refine kx_st 1 (pc' := 13) (L' := [some (.ref 0), some (.int (nI k)), some (.int b), some (.ref (14 + k))]) (st' := []) (h' := kv_wd g w) rfl ?_
      refine kx_st 2 (pc' := 16) (L' := [some (.ref 0), some (.int (nI k)), some (.int b), some (.ref (14 + k))]) (st' := [.int 6, .int b]) (h' := kv_wd g w) rfl ?_
      refine kx_call (z := 124) (as := [.int b, .int 6]) (rest := []) (v := some (.int (kx_b (0 ≤ b ∧ b ≤ 6)))) (h1 := kv_wd g w) rfl (ev_within (d := 898) b 6) ?_
      refine kx_st 0 (pc' := 19) (L' := [some (.ref 0), some (.int (nI k)), some (.int b), some (.ref (14 + k))]) (st' := [.int (kx_b (0 ≤ b ∧ b ≤ 6))]) (h' := kv_wd g w) rfl ?_
      refine kx_bn (t := 28) rfl rfl (fun (h19 : (0 ≤ b ∧ b ≤ 6)) => ?_) (fun (h19 : ¬ (0 ≤ b ∧ b ≤ 6)) => ?_)
      · exact absurd h19 hw
      · refine kx_st 0 (pc' := 22) (L' := [some (.ref 0), some (.int (nI k)), some (.int b), some (.ref (14 + k))]) (st' := []) (h' := kv_wd g w) rfl ?_
        refine kx_st 2 (pc' := 24) (L' := [some (.ref 0), some (.int (nI k)), some (.int b), some (.ref (14 + k))]) (st' := [.int 1, .ref 0]) (h' := kv_wd g w) rfl ?_
        refine kx_call (z := 123) (as := [.ref 0, .int 1]) (rest := []) (v := some (.int (-1000000000 - nI 1))) (h1 := kv_wd (kv_up g 64 1 (g 64 1 + 1)) w) rfl (ev_error (d := 898) 1 (by decide) (by decide)) ?_
        refine kx_st 0 (pc' := 27) (L' := [some (.ref 0), some (.int (nI k)), some (.int b), some (.ref (14 + k))]) (st' := [.int (-1000000000 - nI 1)]) (h' := kv_wd (kv_up g 64 1 (g 64 1 + 1)) w) rfl ?_
        refine kx_ret (v := some (.int (-1000000000 - nI 1))) rfl ?_
        refine ⟨_, _, _, rfl, rfl, ?_⟩
        refine kx_st 0 (pc' := 0) (L' := [some (.ref 65), some (.int (nI k)), some (.int b), none]) (st' := []) (h' := kv_wd (kv_up g 64 1 (g 64 1 + 1)) w) rfl ?_
        refine kx_st 2 (pc' := 2) (L' := [some (.ref 65), some (.int (nI k)), some (.int b), none]) (st' := [.int (nI k), .ref 65]) (h' := kv_wd (kv_up g 64 1 (g 64 1 + 1)) w) rfl ?_
        refine kx_call (z := 139) (as := [.ref 65, .int (nI k)]) (rest := []) (v := some (.int (kx_b (0 ≤ nI k ∧ nI k < nI m)))) (h1 := kv_wd (kv_up g 64 1 (g 64 1 + 1)) w) rfl (ev_mKnotS (d := 897) (g := kv_up g 64 1 (g 64 1 + 1)) (s := m) (by first | exact d2 | (rw [kv_up_ne (by omega)]; exact d2)) a4 (nI k)) ?_
        refine kx_st 0 (pc' := 5) (L' := [some (.ref 65), some (.int (nI k)), some (.int b), none]) (st' := [.int (kx_b (0 ≤ nI k ∧ nI k < nI m))]) (h' := kv_wd (kv_up g 64 1 (g 64 1 + 1)) w) rfl ?_
        refine kx_be (t := 18) rfl rfl (fun (m5 : ¬ (0 ≤ nI k ∧ nI k < nI m)) => ?_) (fun (m5 : (0 ≤ nI k ∧ nI k < nI m)) => ?_)
        · exact absurd hv m5
        · refine kx_st 0 (pc' := 8) (L' := [some (.ref 65), some (.int (nI k)), some (.int b), none]) (st' := []) (h' := kv_wd (kv_up g 64 1 (g 64 1 + 1)) w) rfl ?_
          refine kx_st 3 (pc' := 12) (L' := [some (.ref 65), some (.int (nI k)), some (.int b), none]) (st' := [.int 6, .int 0, .int b]) (h' := kv_wd (kv_up g 64 1 (g 64 1 + 1)) w) rfl ?_
          refine kx_call (z := 130) (as := [.int b, .int 0, .int 6]) (rest := []) (v := some (.int (kx_b (0 ≤ b ∧ b ≤ 6)))) (h1 := kv_wd (kv_up g 64 1 (g 64 1 + 1)) w) rfl (ev_in (d := 898) b 0 6) ?_
          refine kx_st 0 (pc' := 15) (L' := [some (.ref 65), some (.int (nI k)), some (.int b), none]) (st' := [.int (kx_b (0 ≤ b ∧ b ≤ 6))]) (h' := kv_wd (kv_up g 64 1 (g 64 1 + 1)) w) rfl ?_
          refine kx_bn (t := 25) rfl rfl (fun (m15 : (0 ≤ b ∧ b ≤ 6)) => ?_) (fun (m15 : ¬ (0 ≤ b ∧ b ≤ 6)) => ?_)
          · exact absurd m15 hw
          · refine kx_st 0 (pc' := 18) (L' := [some (.ref 65), some (.int (nI k)), some (.int b), none]) (st' := []) (h' := kv_wd (kv_up g 64 1 (g 64 1 + 1)) w) rfl ?_
            refine kx_st 2 (pc' := 21) (L' := [some (.ref 65), some (.int (nI k)), some (.int b), none]) (st' := [.int (-1000000001), .ref 65]) (h' := kv_wd (kv_up g 64 1 (g 64 1 + 1)) w) rfl ?_
            refine kx_call (z := 131) (as := [.ref 65, .int (-1000000001)]) (rest := []) (v := some (.int (-1000000001))) (h1 := kv_wd (kv_up (kv_up g 64 1 (g 64 1 + 1)) 70 1 ((kv_up g 64 1 (g 64 1 + 1)) 70 1 + 1)) w) rfl (ev_errs (d := 898) (-1000000001) 1 (by decide) (by decide)) ?_
            refine kx_st 0 (pc' := 24) (L' := [some (.ref 65), some (.int (nI k)), some (.int b), none]) (st' := [.int (-1000000001)]) (h' := kv_wd (kv_up (kv_up g 64 1 (g 64 1 + 1)) 70 1 ((kv_up g 64 1 (g 64 1 + 1)) 70 1 + 1)) w) rfl ?_
            refine kx_ret (v := some (.int (-1000000001))) rfl ?_
            exact ⟨rfl, _, _, rfl, kx_Rl_e hR⟩
  · refine kx_two (by decide) (Nat.le_of_ble_eq_true rfl) (by decide) (Nat.le_of_ble_eq_true rfl) ?_
    refine kx_st 0 (pc' := 0) (L' := [some (.ref 0), some (.int a), some (.int b), none]) (st' := []) (h' := kv_wd g w) rfl ?_
    refine kx_st 3 (pc' := 5) (L' := [some (.ref 0), some (.int a), some (.int b), none]) (st' := [.int a, .ref 1]) (h' := kv_wd g w) rfl ?_
    refine kx_call (z := 17) (as := [.ref 1, .int a]) (rest := []) (v := some (.null)) (h1 := kv_wd g w) rfl (ev_knotAt_n (d := 898) (g := g) a (by rw [d1]; exact hv)) ?_
    refine kx_st 0 (pc' := 8) (L' := [some (.ref 0), some (.int a), some (.int b), none]) (st' := [.null]) (h' := kv_wd g w) rfl ?_
    refine kx_st 2 (pc' := 10) (L' := [some (.ref 0), some (.int a), some (.int b), some (.null)]) (st' := [.null]) (h' := kv_wd g w) rfl ?_
    refine kx_st 1 (pc' := 22) (L' := [some (.ref 0), some (.int a), some (.int b), some (.null)]) (st' := []) (h' := kv_wd g w) rfl ?_
    refine kx_st 2 (pc' := 24) (L' := [some (.ref 0), some (.int a), some (.int b), some (.null)]) (st' := [.int 1, .ref 0]) (h' := kv_wd g w) rfl ?_
    refine kx_call (z := 123) (as := [.ref 0, .int 1]) (rest := []) (v := some (.int (-1000000000 - nI 1))) (h1 := kv_wd (kv_up g 64 1 (g 64 1 + 1)) w) rfl (ev_error (d := 898) 1 (by decide) (by decide)) ?_
    refine kx_st 0 (pc' := 27) (L' := [some (.ref 0), some (.int a), some (.int b), some (.null)]) (st' := [.int (-1000000000 - nI 1)]) (h' := kv_wd (kv_up g 64 1 (g 64 1 + 1)) w) rfl ?_
    refine kx_ret (v := some (.int (-1000000000 - nI 1))) rfl ?_
    refine ⟨_, _, _, rfl, rfl, ?_⟩
    refine kx_st 0 (pc' := 0) (L' := [some (.ref 65), some (.int a), some (.int b), none]) (st' := []) (h' := kv_wd (kv_up g 64 1 (g 64 1 + 1)) w) rfl ?_
    refine kx_st 2 (pc' := 2) (L' := [some (.ref 65), some (.int a), some (.int b), none]) (st' := [.int a, .ref 65]) (h' := kv_wd (kv_up g 64 1 (g 64 1 + 1)) w) rfl ?_
    refine kx_call (z := 139) (as := [.ref 65, .int a]) (rest := []) (v := some (.int (kx_b (0 ≤ a ∧ a < nI m)))) (h1 := kv_wd (kv_up g 64 1 (g 64 1 + 1)) w) rfl (ev_mKnotS (d := 897) (g := kv_up g 64 1 (g 64 1 + 1)) (s := m) (by first | exact d2 | (rw [kv_up_ne (by omega)]; exact d2)) a4 a) ?_
    refine kx_st 0 (pc' := 5) (L' := [some (.ref 65), some (.int a), some (.int b), none]) (st' := [.int (kx_b (0 ≤ a ∧ a < nI m))]) (h' := kv_wd (kv_up g 64 1 (g 64 1 + 1)) w) rfl ?_
    refine kx_be (t := 18) rfl rfl (fun (m5 : ¬ (0 ≤ a ∧ a < nI m)) => ?_) (fun (m5 : (0 ≤ a ∧ a < nI m)) => ?_)
    · refine kx_st 2 (pc' := 21) (L' := [some (.ref 65), some (.int a), some (.int b), none]) (st' := [.int (-1000000001), .ref 65]) (h' := kv_wd (kv_up g 64 1 (g 64 1 + 1)) w) rfl ?_
      refine kx_call (z := 131) (as := [.ref 65, .int (-1000000001)]) (rest := []) (v := some (.int (-1000000001))) (h1 := kv_wd (kv_up (kv_up g 64 1 (g 64 1 + 1)) 70 1 ((kv_up g 64 1 (g 64 1 + 1)) 70 1 + 1)) w) rfl (ev_errs (d := 898) (-1000000001) 1 (by decide) (by decide)) ?_
      refine kx_st 0 (pc' := 24) (L' := [some (.ref 65), some (.int a), some (.int b), none]) (st' := [.int (-1000000001)]) (h' := kv_wd (kv_up (kv_up g 64 1 (g 64 1 + 1)) 70 1 ((kv_up g 64 1 (g 64 1 + 1)) 70 1 + 1)) w) rfl ?_
      refine kx_ret (v := some (.int (-1000000001))) rfl ?_
      exact ⟨rfl, _, _, rfl, kx_Rl_e hR⟩
    · exact absurd m5 hv
end KP14
