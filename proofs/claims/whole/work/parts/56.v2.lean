set_option maxRecDepth 100000 in
theorem ev_bi_0 {E : kv_V} {d : Nat} {g : kv_S} {w : kv_W} (N M V : Int32) (c : Nat) (hs : kx_MS g c N M V) (h40 : c + 1 ≤ 40) (x : Int32) : kv_ev E (d + 2) 204 [.ref 65, .int 0, .int x] (kv_wd g w) (some (.int (x + N))) (kv_wd (kx_mx g c [10]) w) := by
  refine kx_ev (d := d + 1) (by decide) (Nat.le_of_ble_eq_true rfl) ?_
  refine kx_st 0 (pc' := 0) (L' := [some (.ref 65), some (.int 0), some (.int x)]) (st' := []) (h' := kv_wd g w) rfl ?_
  refine kx_st 1 (pc' := 1) (L' := [some (.ref 65), some (.int 0), some (.int x)]) (st' := [.int 0]) (h' := kv_wd g w) rfl ?_
  refine kx_st 1 (pc' := 4) (L' := [some (.ref 65), some (.int 0), some (.int x)]) (st' := []) (h' := kv_wd g w) rfl ?_
  refine kx_st 2 (pc' := 7) (L' := [some (.ref 65), some (.int 0), some (.int x)]) (st' := [.int 10, .ref 65]) (h' := kv_wd g w) rfl ?_
  refine kx_call (z := 203) (as := [.ref 65, .int 10]) (rest := []) (v := none) (h1 := kv_wd (kx_mx g c [10]) w) rfl (ev_ran (d := d + 0) c hs.1 (by omega) 10) ?_
  refine kx_st 0 (pc' := 10) (L' := [some (.ref 65), some (.int 0), some (.int x)]) (st' := []) (h' := kv_wd (kx_mx g c [10]) w) rfl ?_
  refine kx_st 4 (pc' := 16) (L' := [some (.ref 65), some (.int 0), some (.int x)]) (st' := [.int (x + ((kx_mx g c [10]) 65 22))]) (h' := kv_wd (kx_mx g c [10]) w) rfl ?_
  refine kx_ret (v := some (.int (x + ((kx_mx g c [10]) 65 22)))) rfl ?_
  exact ⟨by rw [show (kx_mx g c [10]) 65 22 = N from (kx_MS_mx [10] hs).2.2.1], rfl⟩
set_option maxRecDepth 100000 in
theorem ev_ti_0_0 {E : kv_V} {d : Nat} {g : kv_S} {w : kv_W} (N M V : Int32) (c : Nat) (hs : kx_MS g c N M V) (hV : V = 0) (h40 : c + 2 ≤ 40) (x : Int32) : kv_ev E (d + 3) 206 [.ref 65, .int 0, .int x] (kv_wd g w) (some (.int ((x + N) * 2))) (kv_wd (kx_mx g c [11, 10]) w) := by
  refine kx_ev (d := d + 2) (by decide) (Nat.le_of_ble_eq_true rfl) ?_
  refine kx_st 0 (pc' := 0) (L' := [some (.ref 65), some (.int 0), some (.int x), none]) (st' := []) (h' := kv_wd g w) rfl ?_
  refine kx_st 1 (pc' := 1) (L' := [some (.ref 65), some (.int 0), some (.int x), none]) (st' := [.int 0]) (h' := kv_wd g w) rfl ?_
  refine kx_st 1 (pc' := 4) (L' := [some (.ref 65), some (.int 0), some (.int x), none]) (st' := []) (h' := kv_wd g w) rfl ?_
  refine kx_st 2 (pc' := 7) (L' := [some (.ref 65), some (.int 0), some (.int x), none]) (st' := [.int 11, .ref 65]) (h' := kv_wd g w) rfl ?_
  refine kx_call (z := 203) (as := [.ref 65, .int 11]) (rest := []) (v := none) (h1 := kv_wd (kx_mx g c [11]) w) rfl (ev_ran (d := d + 1) c hs.1 (by omega) 11) ?_
  refine kx_st 0 (pc' := 10) (L' := [some (.ref 65), some (.int 0), some (.int x), none]) (st' := []) (h' := kv_wd (kx_mx g c [11]) w) rfl ?_
  refine kx_st 4 (pc' := 16) (L' := [some (.ref 65), some (.int 0), some (.int x), none]) (st' := [.int x, .int ((kx_mx g c [11]) 65 21), .ref 65]) (h' := kv_wd (kx_mx g c [11]) w) rfl ?_
  refine kx_call (z := 204) (as := [.ref 65, .int ((kx_mx g c [11]) 65 21), .int x]) (rest := []) (v := some (.int (x + N))) (h1 := kv_wd (kx_mx g c [11, 10]) w) rfl (by rw [← show kx_mx (kx_mx g c [11]) (c + 1) [10] = kx_mx g c [11, 10] from kx_mx_app g c [11] [10]]; rw [show (kx_mx g c [11]) 65 21 = 0 from (kx_MS_mx [11] hs).2.1.trans hV]; exact ev_bi_0 (d := d + 0) (g := kx_mx g c [11]) N M V (c + 1) (kx_MS_mx [11] hs) (by omega) x) ?_
  refine kx_st 0 (pc' := 19) (L' := [some (.ref 65), some (.int 0), some (.int x), none]) (st' := [.int (x + N)]) (h' := kv_wd (kx_mx g c [11, 10]) w) rfl ?_
  refine kx_st 2 (pc' := 21) (L' := [some (.ref 65), some (.int 0), some (.int x), none]) (st' := [.int ((x + N) * 2)]) (h' := kv_wd (kx_mx g c [11, 10]) w) rfl ?_
  refine kx_ret (v := some (.int ((x + N) * 2))) rfl ?_
  exact ⟨rfl, rfl⟩
set_option maxRecDepth 100000 in
theorem ev_sl_0 {E : kv_V} {d : Nat} {g : kv_S} {w : kv_W} (N M V : Int32) (c : Nat) (hs : kx_MS g c N M V) (h40 : c + 1 ≤ 40) (x : Int32) : kv_ev E (d + 2) 205 [.ref 65, .int 0, .int x] (kv_wd g w) (some (.int (x - M))) (kv_wd (kx_mx g c [12]) w) := by
  refine kx_ev (d := d + 1) (by decide) (Nat.le_of_ble_eq_true rfl) ?_
  refine kx_st 0 (pc' := 0) (L' := [some (.ref 65), some (.int 0), some (.int x)]) (st' := []) (h' := kv_wd g w) rfl ?_
  refine kx_st 1 (pc' := 1) (L' := [some (.ref 65), some (.int 0), some (.int x)]) (st' := [.int 0]) (h' := kv_wd g w) rfl ?_
  refine kx_st 1 (pc' := 4) (L' := [some (.ref 65), some (.int 0), some (.int x)]) (st' := []) (h' := kv_wd g w) rfl ?_
  refine kx_st 2 (pc' := 7) (L' := [some (.ref 65), some (.int 0), some (.int x)]) (st' := [.int 12, .ref 65]) (h' := kv_wd g w) rfl ?_
  refine kx_call (z := 203) (as := [.ref 65, .int 12]) (rest := []) (v := none) (h1 := kv_wd (kx_mx g c [12]) w) rfl (ev_ran (d := d + 0) c hs.1 (by omega) 12) ?_
  refine kx_st 0 (pc' := 10) (L' := [some (.ref 65), some (.int 0), some (.int x)]) (st' := []) (h' := kv_wd (kx_mx g c [12]) w) rfl ?_
  refine kx_st 4 (pc' := 16) (L' := [some (.ref 65), some (.int 0), some (.int x)]) (st' := [.int (x - ((kx_mx g c [12]) 65 23))]) (h' := kv_wd (kx_mx g c [12]) w) rfl ?_
  refine kx_ret (v := some (.int (x - ((kx_mx g c [12]) 65 23)))) rfl ?_
  exact ⟨by rw [show (kx_mx g c [12]) 65 23 = M from (kx_MS_mx [12] hs).2.2.2], rfl⟩
set_option maxRecDepth 100000 in
theorem ev_te_0_0 {E : kv_V} {d : Nat} {g : kv_S} {w : kv_W} (N M V : Int32) (c : Nat) (hs : kx_MS g c N M V) (hV : V = 0) (h40 : c + 4 ≤ 40) (x : Int32) : kv_ev E (d + 4) 207 [.ref 65, .int 0, .int x] (kv_wd g w) (some (.int (((x + N) * 2) ^^^ (x - M)))) (kv_wd (kx_mx g c [13, 11, 10, 12]) w) := by
  refine kx_ev (d := d + 3) (by decide) (Nat.le_of_ble_eq_true rfl) ?_
  refine kx_st 0 (pc' := 0) (L' := [some (.ref 65), some (.int 0), some (.int x), none]) (st' := []) (h' := kv_wd g w) rfl ?_
  refine kx_st 1 (pc' := 1) (L' := [some (.ref 65), some (.int 0), some (.int x), none]) (st' := [.int 0]) (h' := kv_wd g w) rfl ?_
  refine kx_st 1 (pc' := 4) (L' := [some (.ref 65), some (.int 0), some (.int x), none]) (st' := []) (h' := kv_wd g w) rfl ?_
  refine kx_st 2 (pc' := 7) (L' := [some (.ref 65), some (.int 0), some (.int x), none]) (st' := [.int 13, .ref 65]) (h' := kv_wd g w) rfl ?_
  refine kx_call (z := 203) (as := [.ref 65, .int 13]) (rest := []) (v := none) (h1 := kv_wd (kx_mx g c [13]) w) rfl (ev_ran (d := d + 2) c hs.1 (by omega) 13) ?_
  refine kx_st 0 (pc' := 10) (L' := [some (.ref 65), some (.int 0), some (.int x), none]) (st' := []) (h' := kv_wd (kx_mx g c [13]) w) rfl ?_
  refine kx_st 4 (pc' := 16) (L' := [some (.ref 65), some (.int 0), some (.int x), none]) (st' := [.int x, .int ((kx_mx g c [13]) 65 21), .ref 65]) (h' := kv_wd (kx_mx g c [13]) w) rfl ?_
  refine kx_call (z := 206) (as := [.ref 65, .int ((kx_mx g c [13]) 65 21), .int x]) (rest := []) (v := some (.int ((x + N) * 2))) (h1 := kv_wd (kx_mx g c [13, 11, 10]) w) rfl (by rw [← show kx_mx (kx_mx g c [13]) (c + 1) [11, 10] = kx_mx g c [13, 11, 10] from kx_mx_app g c [13] [11, 10]]; rw [show (kx_mx g c [13]) 65 21 = 0 from (kx_MS_mx [13] hs).2.1.trans hV]; exact ev_ti_0_0 (d := d + 0) (g := kx_mx g c [13]) N M V (c + 1) (kx_MS_mx [13] hs) hV (by omega) x) ?_
  refine kx_st 0 (pc' := 19) (L' := [some (.ref 65), some (.int 0), some (.int x), none]) (st' := [.int ((x + N) * 2)]) (h' := kv_wd (kx_mx g c [13, 11, 10]) w) rfl ?_
  refine kx_st 6 (pc' := 27) (L' := [some (.ref 65), some (.int 0), some (.int x), some (.int ((x + N) * 2))]) (st' := [.int x, .int ((kx_mx g c [13, 11, 10]) 65 21), .ref 65, .int ((x + N) * 2)]) (h' := kv_wd (kx_mx g c [13, 11, 10]) w) rfl ?_
  refine kx_call (z := 205) (as := [.ref 65, .int ((kx_mx g c [13, 11, 10]) 65 21), .int x]) (rest := [.int ((x + N) * 2)]) (v := some (.int (x - M))) (h1 := kv_wd (kx_mx g c [13, 11, 10, 12]) w) rfl (by rw [← show kx_mx (kx_mx g c [13, 11, 10]) (c + 3) [12] = kx_mx g c [13, 11, 10, 12] from kx_mx_app g c [13, 11, 10] [12]]; rw [show (kx_mx g c [13, 11, 10]) 65 21 = 0 from (kx_MS_mx [13, 11, 10] hs).2.1.trans hV]; exact ev_sl_0 (d := d + 1) (g := kx_mx g c [13, 11, 10]) N M V (c + 3) (kx_MS_mx [13, 11, 10] hs) (by omega) x) ?_
  refine kx_st 0 (pc' := 30) (L' := [some (.ref 65), some (.int 0), some (.int x), some (.int ((x + N) * 2))]) (st' := [.int (x - M), .int ((x + N) * 2)]) (h' := kv_wd (kx_mx g c [13, 11, 10, 12]) w) rfl ?_
  refine kx_st 1 (pc' := 31) (L' := [some (.ref 65), some (.int 0), some (.int x), some (.int ((x + N) * 2))]) (st' := [.int (((x + N) * 2) ^^^ (x - M))]) (h' := kv_wd (kx_mx g c [13, 11, 10, 12]) w) rfl ?_
  refine kx_ret (v := some (.int (((x + N) * 2) ^^^ (x - M)))) rfl ?_
  exact ⟨rfl, rfl⟩
set_option maxRecDepth 100000 in
theorem ev_bi_1 {E : kv_V} {d : Nat} {g : kv_S} {w : kv_W} (N M V : Int32) (c : Nat) (hs : kx_MS g c N M V) (h40 : c + 2 ≤ 40) (x : Int32) : kv_ev E (d + 3) 204 [.ref 65, .int 1, .int x] (kv_wd g w) (some (.int ((x + N) * 3))) (kv_wd (kx_mx g c [20, 10]) w) := by
  refine kx_ev (d := d + 2) (by decide) (Nat.le_of_ble_eq_true rfl) ?_
  refine kx_st 0 (pc' := 0) (L' := [some (.ref 65), some (.int 1), some (.int x)]) (st' := []) (h' := kv_wd g w) rfl ?_
  refine kx_st 1 (pc' := 1) (L' := [some (.ref 65), some (.int 1), some (.int x)]) (st' := [.int 1]) (h' := kv_wd g w) rfl ?_
  refine kx_st 1 (pc' := 17) (L' := [some (.ref 65), some (.int 1), some (.int x)]) (st' := []) (h' := kv_wd g w) rfl ?_
  refine kx_st 2 (pc' := 19) (L' := [some (.ref 65), some (.int 1), some (.int x)]) (st' := [.int 1, .int 1]) (h' := kv_wd g w) rfl ?_
  refine kx_st 1 (pc' := 22) (L' := [some (.ref 65), some (.int 1), some (.int x)]) (st' := []) (h' := kv_wd g w) rfl ?_
  refine kx_st 2 (pc' := 25) (L' := [some (.ref 65), some (.int 1), some (.int x)]) (st' := [.int 20, .ref 65]) (h' := kv_wd g w) rfl ?_
  refine kx_call (z := 203) (as := [.ref 65, .int 20]) (rest := []) (v := none) (h1 := kv_wd (kx_mx g c [20]) w) rfl (ev_ran (d := d + 1) c hs.1 (by omega) 20) ?_
  refine kx_st 0 (pc' := 28) (L' := [some (.ref 65), some (.int 1), some (.int x)]) (st' := []) (h' := kv_wd (kx_mx g c [20]) w) rfl ?_
  refine kx_st 3 (pc' := 31) (L' := [some (.ref 65), some (.int 1), some (.int x)]) (st' := [.int x, .int 0, .ref 65]) (h' := kv_wd (kx_mx g c [20]) w) rfl ?_
  refine kx_call (z := 204) (as := [.ref 65, .int 0, .int x]) (rest := []) (v := some (.int (x + N))) (h1 := kv_wd (kx_mx g c [20, 10]) w) rfl (by rw [← show kx_mx (kx_mx g c [20]) (c + 1) [10] = kx_mx g c [20, 10] from kx_mx_app g c [20] [10]]; exact ev_bi_0 (d := d + 0) (g := kx_mx g c [20]) N M V (c + 1) (kx_MS_mx [20] hs) (by omega) x) ?_
  refine kx_st 0 (pc' := 34) (L' := [some (.ref 65), some (.int 1), some (.int x)]) (st' := [.int (x + N)]) (h' := kv_wd (kx_mx g c [20, 10]) w) rfl ?_
  refine kx_st 2 (pc' := 36) (L' := [some (.ref 65), some (.int 1), some (.int x)]) (st' := [.int ((x + N) * 3)]) (h' := kv_wd (kx_mx g c [20, 10]) w) rfl ?_
  refine kx_ret (v := some (.int ((x + N) * 3))) rfl ?_
  exact ⟨rfl, rfl⟩
set_option maxRecDepth 100000 in
theorem ev_ti_1_0 {E : kv_V} {d : Nat} {g : kv_S} {w : kv_W} (N M V : Int32) (c : Nat) (hs : kx_MS g c N M V) (hV : V = 1) (h40 : c + 3 ≤ 40) (x : Int32) : kv_ev E (d + 4) 206 [.ref 65, .int 0, .int x] (kv_wd g w) (some (.int (((x + N) * 3) * 2))) (kv_wd (kx_mx g c [11, 20, 10]) w) := by
  refine kx_ev (d := d + 3) (by decide) (Nat.le_of_ble_eq_true rfl) ?_
  refine kx_st 0 (pc' := 0) (L' := [some (.ref 65), some (.int 0), some (.int x), none]) (st' := []) (h' := kv_wd g w) rfl ?_
  refine kx_st 1 (pc' := 1) (L' := [some (.ref 65), some (.int 0), some (.int x), none]) (st' := [.int 0]) (h' := kv_wd g w) rfl ?_
  refine kx_st 1 (pc' := 4) (L' := [some (.ref 65), some (.int 0), some (.int x), none]) (st' := []) (h' := kv_wd g w) rfl ?_
  refine kx_st 2 (pc' := 7) (L' := [some (.ref 65), some (.int 0), some (.int x), none]) (st' := [.int 11, .ref 65]) (h' := kv_wd g w) rfl ?_
  refine kx_call (z := 203) (as := [.ref 65, .int 11]) (rest := []) (v := none) (h1 := kv_wd (kx_mx g c [11]) w) rfl (ev_ran (d := d + 2) c hs.1 (by omega) 11) ?_
  refine kx_st 0 (pc' := 10) (L' := [some (.ref 65), some (.int 0), some (.int x), none]) (st' := []) (h' := kv_wd (kx_mx g c [11]) w) rfl ?_
  refine kx_st 4 (pc' := 16) (L' := [some (.ref 65), some (.int 0), some (.int x), none]) (st' := [.int x, .int ((kx_mx g c [11]) 65 21), .ref 65]) (h' := kv_wd (kx_mx g c [11]) w) rfl ?_
  refine kx_call (z := 204) (as := [.ref 65, .int ((kx_mx g c [11]) 65 21), .int x]) (rest := []) (v := some (.int ((x + N) * 3))) (h1 := kv_wd (kx_mx g c [11, 20, 10]) w) rfl (by rw [← show kx_mx (kx_mx g c [11]) (c + 1) [20, 10] = kx_mx g c [11, 20, 10] from kx_mx_app g c [11] [20, 10]]; rw [show (kx_mx g c [11]) 65 21 = 1 from (kx_MS_mx [11] hs).2.1.trans hV]; exact ev_bi_1 (d := d + 0) (g := kx_mx g c [11]) N M V (c + 1) (kx_MS_mx [11] hs) (by omega) x) ?_
  refine kx_st 0 (pc' := 19) (L' := [some (.ref 65), some (.int 0), some (.int x), none]) (st' := [.int ((x + N) * 3)]) (h' := kv_wd (kx_mx g c [11, 20, 10]) w) rfl ?_
  refine kx_st 2 (pc' := 21) (L' := [some (.ref 65), some (.int 0), some (.int x), none]) (st' := [.int (((x + N) * 3) * 2)]) (h' := kv_wd (kx_mx g c [11, 20, 10]) w) rfl ?_
  refine kx_ret (v := some (.int (((x + N) * 3) * 2))) rfl ?_
  exact ⟨rfl, rfl⟩
set_option maxRecDepth 100000 in
theorem ev_ti_1_1 {E : kv_V} {d : Nat} {g : kv_S} {w : kv_W} (N M V : Int32) (c : Nat) (hs : kx_MS g c N M V) (hV : V = 1) (h40 : c + 3 ≤ 40) (x : Int32) : kv_ev E (d + 5) 206 [.ref 65, .int 1, .int x] (kv_wd g w) (some (.int (((x + N) * 3) * 2))) (kv_wd (kx_mx g c [11, 20, 10]) w) := by
  refine kx_ev (d := d + 4) (by decide) (Nat.le_of_ble_eq_true rfl) ?_
  refine kx_st 0 (pc' := 0) (L' := [some (.ref 65), some (.int 1), some (.int x), none]) (st' := []) (h' := kv_wd g w) rfl ?_
  refine kx_st 1 (pc' := 1) (L' := [some (.ref 65), some (.int 1), some (.int x), none]) (st' := [.int 1]) (h' := kv_wd g w) rfl ?_
  refine kx_st 1 (pc' := 22) (L' := [some (.ref 65), some (.int 1), some (.int x), none]) (st' := []) (h' := kv_wd g w) rfl ?_
  refine kx_st 2 (pc' := 24) (L' := [some (.ref 65), some (.int 1), some (.int x), none]) (st' := [.int 2, .int 1]) (h' := kv_wd g w) rfl ?_
  refine kx_st 1 (pc' := 52) (L' := [some (.ref 65), some (.int 1), some (.int x), none]) (st' := []) (h' := kv_wd g w) rfl ?_
  refine kx_st 2 (pc' := 54) (L' := [some (.ref 65), some (.int 1), some (.int x), none]) (st' := [.int 5, .int 1]) (h' := kv_wd g w) rfl ?_
  refine kx_st 1 (pc' := 72) (L' := [some (.ref 65), some (.int 1), some (.int x), none]) (st' := []) (h' := kv_wd g w) rfl ?_
  refine kx_st 2 (pc' := 74) (L' := [some (.ref 65), some (.int 1), some (.int x), none]) (st' := [.int 1, .ref 65]) (h' := kv_wd g w) rfl ?_
  refine kx_call (z := 153) (as := [.int 1]) (rest := [.ref 65]) (v := some (.int 0)) (h1 := kv_wd g w) rfl (ev_mabove_1 (d := d + 3)) ?_
  refine kx_st 0 (pc' := 77) (L' := [some (.ref 65), some (.int 1), some (.int x), none]) (st' := [.int 0, .ref 65]) (h' := kv_wd g w) rfl ?_
  refine kx_st 1 (pc' := 78) (L' := [some (.ref 65), some (.int 1), some (.int x), none]) (st' := [.int x, .int 0, .ref 65]) (h' := kv_wd g w) rfl ?_
  refine kx_call (z := 206) (as := [.ref 65, .int 0, .int x]) (rest := []) (v := some (.int (((x + N) * 3) * 2))) (h1 := kv_wd (kx_mx g c [11, 20, 10]) w) rfl (by exact ev_ti_1_0 (d := d + 0) (g := g) N M V c hs hV (by omega) x) ?_
  refine kx_st 0 (pc' := 81) (L' := [some (.ref 65), some (.int 1), some (.int x), none]) (st' := [.int (((x + N) * 3) * 2)]) (h' := kv_wd (kx_mx g c [11, 20, 10]) w) rfl ?_
  refine kx_ret (v := some (.int (((x + N) * 3) * 2))) rfl ?_
  exact ⟨rfl, rfl⟩
set_option maxRecDepth 100000 in
theorem ev_sl_1 {E : kv_V} {d : Nat} {g : kv_S} {w : kv_W} (N M V : Int32) (c : Nat) (hs : kx_MS g c N M V) (h40 : c + 1 ≤ 40) (x : Int32) : kv_ev E (d + 3) 205 [.ref 65, .int 1, .int x] (kv_wd g w) (some (.int (x - M))) (kv_wd (kx_mx g c [12]) w) := by
  refine kx_ev (d := d + 2) (by decide) (Nat.le_of_ble_eq_true rfl) ?_
  refine kx_st 0 (pc' := 0) (L' := [some (.ref 65), some (.int 1), some (.int x)]) (st' := []) (h' := kv_wd g w) rfl ?_
  refine kx_st 1 (pc' := 1) (L' := [some (.ref 65), some (.int 1), some (.int x)]) (st' := [.int 1]) (h' := kv_wd g w) rfl ?_
  refine kx_st 1 (pc' := 17) (L' := [some (.ref 65), some (.int 1), some (.int x)]) (st' := []) (h' := kv_wd g w) rfl ?_
  refine kx_st 2 (pc' := 19) (L' := [some (.ref 65), some (.int 1), some (.int x)]) (st' := [.int 3, .int 1]) (h' := kv_wd g w) rfl ?_
  refine kx_st 1 (pc' := 36) (L' := [some (.ref 65), some (.int 1), some (.int x)]) (st' := []) (h' := kv_wd g w) rfl ?_
  refine kx_st 2 (pc' := 39) (L' := [some (.ref 65), some (.int 1), some (.int x)]) (st' := [.int 6, .int 1]) (h' := kv_wd g w) rfl ?_
  refine kx_st 1 (pc' := 60) (L' := [some (.ref 65), some (.int 1), some (.int x)]) (st' := []) (h' := kv_wd g w) rfl ?_
  refine kx_st 2 (pc' := 62) (L' := [some (.ref 65), some (.int 1), some (.int x)]) (st' := [.int 1, .ref 65]) (h' := kv_wd g w) rfl ?_
  refine kx_call (z := 153) (as := [.int 1]) (rest := [.ref 65]) (v := some (.int 0)) (h1 := kv_wd g w) rfl (ev_mabove_1 (d := d + 1)) ?_
  refine kx_st 0 (pc' := 65) (L' := [some (.ref 65), some (.int 1), some (.int x)]) (st' := [.int 0, .ref 65]) (h' := kv_wd g w) rfl ?_
  refine kx_st 1 (pc' := 66) (L' := [some (.ref 65), some (.int 1), some (.int x)]) (st' := [.int x, .int 0, .ref 65]) (h' := kv_wd g w) rfl ?_
  refine kx_call (z := 205) (as := [.ref 65, .int 0, .int x]) (rest := []) (v := some (.int (x - M))) (h1 := kv_wd (kx_mx g c [12]) w) rfl (by exact ev_sl_0 (d := d + 0) (g := g) N M V c hs (by omega) x) ?_
  refine kx_st 0 (pc' := 69) (L' := [some (.ref 65), some (.int 1), some (.int x)]) (st' := [.int (x - M)]) (h' := kv_wd (kx_mx g c [12]) w) rfl ?_
  refine kx_ret (v := some (.int (x - M))) rfl ?_
  exact ⟨rfl, rfl⟩
set_option maxRecDepth 100000 in
theorem ev_te_1_0 {E : kv_V} {d : Nat} {g : kv_S} {w : kv_W} (N M V : Int32) (c : Nat) (hs : kx_MS g c N M V) (hV : V = 1) (h40 : c + 5 ≤ 40) (x : Int32) : kv_ev E (d + 6) 207 [.ref 65, .int 0, .int x] (kv_wd g w) (some (.int ((((x + N) * 3) * 2) ^^^ (x - M)))) (kv_wd (kx_mx g c [13, 11, 20, 10, 12]) w) := by
  refine kx_ev (d := d + 5) (by decide) (Nat.le_of_ble_eq_true rfl) ?_
  refine kx_st 0 (pc' := 0) (L' := [some (.ref 65), some (.int 0), some (.int x), none]) (st' := []) (h' := kv_wd g w) rfl ?_
  refine kx_st 1 (pc' := 1) (L' := [some (.ref 65), some (.int 0), some (.int x), none]) (st' := [.int 0]) (h' := kv_wd g w) rfl ?_
  refine kx_st 1 (pc' := 4) (L' := [some (.ref 65), some (.int 0), some (.int x), none]) (st' := []) (h' := kv_wd g w) rfl ?_
  refine kx_st 2 (pc' := 7) (L' := [some (.ref 65), some (.int 0), some (.int x), none]) (st' := [.int 13, .ref 65]) (h' := kv_wd g w) rfl ?_
  refine kx_call (z := 203) (as := [.ref 65, .int 13]) (rest := []) (v := none) (h1 := kv_wd (kx_mx g c [13]) w) rfl (ev_ran (d := d + 4) c hs.1 (by omega) 13) ?_
  refine kx_st 0 (pc' := 10) (L' := [some (.ref 65), some (.int 0), some (.int x), none]) (st' := []) (h' := kv_wd (kx_mx g c [13]) w) rfl ?_
  refine kx_st 4 (pc' := 16) (L' := [some (.ref 65), some (.int 0), some (.int x), none]) (st' := [.int x, .int ((kx_mx g c [13]) 65 21), .ref 65]) (h' := kv_wd (kx_mx g c [13]) w) rfl ?_
  refine kx_call (z := 206) (as := [.ref 65, .int ((kx_mx g c [13]) 65 21), .int x]) (rest := []) (v := some (.int (((x + N) * 3) * 2))) (h1 := kv_wd (kx_mx g c [13, 11, 20, 10]) w) rfl (by rw [← show kx_mx (kx_mx g c [13]) (c + 1) [11, 20, 10] = kx_mx g c [13, 11, 20, 10] from kx_mx_app g c [13] [11, 20, 10]]; rw [show (kx_mx g c [13]) 65 21 = 1 from (kx_MS_mx [13] hs).2.1.trans hV]; exact ev_ti_1_1 (d := d + 0) (g := kx_mx g c [13]) N M V (c + 1) (kx_MS_mx [13] hs) hV (by omega) x) ?_
  refine kx_st 0 (pc' := 19) (L' := [some (.ref 65), some (.int 0), some (.int x), none]) (st' := [.int (((x + N) * 3) * 2)]) (h' := kv_wd (kx_mx g c [13, 11, 20, 10]) w) rfl ?_
  refine kx_st 6 (pc' := 27) (L' := [some (.ref 65), some (.int 0), some (.int x), some (.int (((x + N) * 3) * 2))]) (st' := [.int x, .int ((kx_mx g c [13, 11, 20, 10]) 65 21), .ref 65, .int (((x + N) * 3) * 2)]) (h' := kv_wd (kx_mx g c [13, 11, 20, 10]) w) rfl ?_
  refine kx_call (z := 205) (as := [.ref 65, .int ((kx_mx g c [13, 11, 20, 10]) 65 21), .int x]) (rest := [.int (((x + N) * 3) * 2)]) (v := some (.int (x - M))) (h1 := kv_wd (kx_mx g c [13, 11, 20, 10, 12]) w) rfl (by rw [← show kx_mx (kx_mx g c [13, 11, 20, 10]) (c + 4) [12] = kx_mx g c [13, 11, 20, 10, 12] from kx_mx_app g c [13, 11, 20, 10] [12]]; rw [show (kx_mx g c [13, 11, 20, 10]) 65 21 = 1 from (kx_MS_mx [13, 11, 20, 10] hs).2.1.trans hV]; exact ev_sl_1 (d := d + 2) (g := kx_mx g c [13, 11, 20, 10]) N M V (c + 4) (kx_MS_mx [13, 11, 20, 10] hs) (by omega) x) ?_
  refine kx_st 0 (pc' := 30) (L' := [some (.ref 65), some (.int 0), some (.int x), some (.int (((x + N) * 3) * 2))]) (st' := [.int (x - M), .int (((x + N) * 3) * 2)]) (h' := kv_wd (kx_mx g c [13, 11, 20, 10, 12]) w) rfl ?_
  refine kx_st 1 (pc' := 31) (L' := [some (.ref 65), some (.int 0), some (.int x), some (.int (((x + N) * 3) * 2))]) (st' := [.int ((((x + N) * 3) * 2) ^^^ (x - M))]) (h' := kv_wd (kx_mx g c [13, 11, 20, 10, 12]) w) rfl ?_
  refine kx_ret (v := some (.int ((((x + N) * 3) * 2) ^^^ (x - M)))) rfl ?_
  exact ⟨rfl, rfl⟩
set_option maxRecDepth 100000 in
theorem ev_te_1_1 {E : kv_V} {d : Nat} {g : kv_S} {w : kv_W} (N M V : Int32) (c : Nat) (hs : kx_MS g c N M V) (hV : V = 1) (h40 : c + 5 ≤ 40) (x : Int32) : kv_ev E (d + 7) 207 [.ref 65, .int 1, .int x] (kv_wd g w) (some (.int ((((x + N) * 3) * 2) ^^^ (x - M)))) (kv_wd (kx_mx g c [13, 11, 20, 10, 12]) w) := by
  refine kx_ev (d := d + 6) (by decide) (Nat.le_of_ble_eq_true rfl) ?_
  refine kx_st 0 (pc' := 0) (L' := [some (.ref 65), some (.int 1), some (.int x), none]) (st' := []) (h' := kv_wd g w) rfl ?_
  refine kx_st 1 (pc' := 1) (L' := [some (.ref 65), some (.int 1), some (.int x), none]) (st' := [.int 1]) (h' := kv_wd g w) rfl ?_
  refine kx_st 1 (pc' := 32) (L' := [some (.ref 65), some (.int 1), some (.int x), none]) (st' := []) (h' := kv_wd g w) rfl ?_
  refine kx_st 2 (pc' := 34) (L' := [some (.ref 65), some (.int 1), some (.int x), none]) (st' := [.int 4, .int 1]) (h' := kv_wd g w) rfl ?_
  refine kx_st 1 (pc' := 62) (L' := [some (.ref 65), some (.int 1), some (.int x), none]) (st' := []) (h' := kv_wd g w) rfl ?_
  refine kx_st 2 (pc' := 65) (L' := [some (.ref 65), some (.int 1), some (.int x), none]) (st' := [.int 6, .int 1]) (h' := kv_wd g w) rfl ?_
  refine kx_st 1 (pc' := 93) (L' := [some (.ref 65), some (.int 1), some (.int x), none]) (st' := []) (h' := kv_wd g w) rfl ?_
  refine kx_st 2 (pc' := 95) (L' := [some (.ref 65), some (.int 1), some (.int x), none]) (st' := [.int 1, .ref 65]) (h' := kv_wd g w) rfl ?_
  refine kx_call (z := 153) (as := [.int 1]) (rest := [.ref 65]) (v := some (.int 0)) (h1 := kv_wd g w) rfl (ev_mabove_1 (d := d + 5)) ?_
  refine kx_st 0 (pc' := 98) (L' := [some (.ref 65), some (.int 1), some (.int x), none]) (st' := [.int 0, .ref 65]) (h' := kv_wd g w) rfl ?_
  refine kx_st 1 (pc' := 99) (L' := [some (.ref 65), some (.int 1), some (.int x), none]) (st' := [.int x, .int 0, .ref 65]) (h' := kv_wd g w) rfl ?_
  refine kx_call (z := 207) (as := [.ref 65, .int 0, .int x]) (rest := []) (v := some (.int ((((x + N) * 3) * 2) ^^^ (x - M)))) (h1 := kv_wd (kx_mx g c [13, 11, 20, 10, 12]) w) rfl (by exact ev_te_1_0 (d := d + 0) (g := g) N M V c hs hV (by omega) x) ?_
  refine kx_st 0 (pc' := 102) (L' := [some (.ref 65), some (.int 1), some (.int x), none]) (st' := [.int ((((x + N) * 3) * 2) ^^^ (x - M))]) (h' := kv_wd (kx_mx g c [13, 11, 20, 10, 12]) w) rfl ?_
  refine kx_ret (v := some (.int ((((x + N) * 3) * 2) ^^^ (x - M)))) rfl ?_
  exact ⟨rfl, rfl⟩
set_option maxRecDepth 100000 in
theorem ev_bi_2 {E : kv_V} {d : Nat} {g : kv_S} {w : kv_W} (N M V : Int32) (c : Nat) (hs : kx_MS g c N M V) (h40 : c + 1 ≤ 40) (x : Int32) : kv_ev E (d + 3) 204 [.ref 65, .int 2, .int x] (kv_wd g w) (some (.int (x + N))) (kv_wd (kx_mx g c [10]) w) := by
  refine kx_ev (d := d + 2) (by decide) (Nat.le_of_ble_eq_true rfl) ?_
  refine kx_st 0 (pc' := 0) (L' := [some (.ref 65), some (.int 2), some (.int x)]) (st' := []) (h' := kv_wd g w) rfl ?_
  refine kx_st 1 (pc' := 1) (L' := [some (.ref 65), some (.int 2), some (.int x)]) (st' := [.int 2]) (h' := kv_wd g w) rfl ?_
  refine kx_st 1 (pc' := 17) (L' := [some (.ref 65), some (.int 2), some (.int x)]) (st' := []) (h' := kv_wd g w) rfl ?_
  refine kx_st 2 (pc' := 19) (L' := [some (.ref 65), some (.int 2), some (.int x)]) (st' := [.int 1, .int 2]) (h' := kv_wd g w) rfl ?_
  refine kx_st 1 (pc' := 37) (L' := [some (.ref 65), some (.int 2), some (.int x)]) (st' := []) (h' := kv_wd g w) rfl ?_
  refine kx_st 2 (pc' := 39) (L' := [some (.ref 65), some (.int 2), some (.int x)]) (st' := [.int 2, .ref 65]) (h' := kv_wd g w) rfl ?_
  refine kx_call (z := 153) (as := [.int 2]) (rest := [.ref 65]) (v := some (.int 0)) (h1 := kv_wd g w) rfl (ev_mabove_2 (d := d + 1)) ?_
  refine kx_st 0 (pc' := 42) (L' := [some (.ref 65), some (.int 2), some (.int x)]) (st' := [.int 0, .ref 65]) (h' := kv_wd g w) rfl ?_
  refine kx_st 1 (pc' := 43) (L' := [some (.ref 65), some (.int 2), some (.int x)]) (st' := [.int x, .int 0, .ref 65]) (h' := kv_wd g w) rfl ?_
  refine kx_call (z := 204) (as := [.ref 65, .int 0, .int x]) (rest := []) (v := some (.int (x + N))) (h1 := kv_wd (kx_mx g c [10]) w) rfl (by exact ev_bi_0 (d := d + 0) (g := g) N M V c hs (by omega) x) ?_
  refine kx_st 0 (pc' := 46) (L' := [some (.ref 65), some (.int 2), some (.int x)]) (st' := [.int (x + N)]) (h' := kv_wd (kx_mx g c [10]) w) rfl ?_
  refine kx_ret (v := some (.int (x + N))) rfl ?_
  exact ⟨rfl, rfl⟩
set_option maxRecDepth 100000 in
theorem ev_ti_2_0 {E : kv_V} {d : Nat} {g : kv_S} {w : kv_W} (N M V : Int32) (c : Nat) (hs : kx_MS g c N M V) (hV : V = 2) (h40 : c + 2 ≤ 40) (x : Int32) : kv_ev E (d + 4) 206 [.ref 65, .int 0, .int x] (kv_wd g w) (some (.int ((x + N) * 2))) (kv_wd (kx_mx g c [11, 10]) w) := by
  refine kx_ev (d := d + 3) (by decide) (Nat.le_of_ble_eq_true rfl) ?_
  refine kx_st 0 (pc' := 0) (L' := [some (.ref 65), some (.int 0), some (.int x), none]) (st' := []) (h' := kv_wd g w) rfl ?_
  refine kx_st 1 (pc' := 1) (L' := [some (.ref 65), some (.int 0), some (.int x), none]) (st' := [.int 0]) (h' := kv_wd g w) rfl ?_
  refine kx_st 1 (pc' := 4) (L' := [some (.ref 65), some (.int 0), some (.int x), none]) (st' := []) (h' := kv_wd g w) rfl ?_
  refine kx_st 2 (pc' := 7) (L' := [some (.ref 65), some (.int 0), some (.int x), none]) (st' := [.int 11, .ref 65]) (h' := kv_wd g w) rfl ?_
  refine kx_call (z := 203) (as := [.ref 65, .int 11]) (rest := []) (v := none) (h1 := kv_wd (kx_mx g c [11]) w) rfl (ev_ran (d := d + 2) c hs.1 (by omega) 11) ?_
  refine kx_st 0 (pc' := 10) (L' := [some (.ref 65), some (.int 0), some (.int x), none]) (st' := []) (h' := kv_wd (kx_mx g c [11]) w) rfl ?_
  refine kx_st 4 (pc' := 16) (L' := [some (.ref 65), some (.int 0), some (.int x), none]) (st' := [.int x, .int ((kx_mx g c [11]) 65 21), .ref 65]) (h' := kv_wd (kx_mx g c [11]) w) rfl ?_
  refine kx_call (z := 204) (as := [.ref 65, .int ((kx_mx g c [11]) 65 21), .int x]) (rest := []) (v := some (.int (x + N))) (h1 := kv_wd (kx_mx g c [11, 10]) w) rfl (by rw [← show kx_mx (kx_mx g c [11]) (c + 1) [10] = kx_mx g c [11, 10] from kx_mx_app g c [11] [10]]; rw [show (kx_mx g c [11]) 65 21 = 2 from (kx_MS_mx [11] hs).2.1.trans hV]; exact ev_bi_2 (d := d + 0) (g := kx_mx g c [11]) N M V (c + 1) (kx_MS_mx [11] hs) (by omega) x) ?_
  refine kx_st 0 (pc' := 19) (L' := [some (.ref 65), some (.int 0), some (.int x), none]) (st' := [.int (x + N)]) (h' := kv_wd (kx_mx g c [11, 10]) w) rfl ?_
  refine kx_st 2 (pc' := 21) (L' := [some (.ref 65), some (.int 0), some (.int x), none]) (st' := [.int ((x + N) * 2)]) (h' := kv_wd (kx_mx g c [11, 10]) w) rfl ?_
  refine kx_ret (v := some (.int ((x + N) * 2))) rfl ?_
  exact ⟨rfl, rfl⟩
set_option maxRecDepth 100000 in
theorem ev_sl_2 {E : kv_V} {d : Nat} {g : kv_S} {w : kv_W} (N M V : Int32) (c : Nat) (hs : kx_MS g c N M V) (h40 : c + 1 ≤ 40) (x : Int32) : kv_ev E (d + 3) 205 [.ref 65, .int 2, .int x] (kv_wd g w) (some (.int (x - M))) (kv_wd (kx_mx g c [12]) w) := by
  refine kx_ev (d := d + 2) (by decide) (Nat.le_of_ble_eq_true rfl) ?_
  refine kx_st 0 (pc' := 0) (L' := [some (.ref 65), some (.int 2), some (.int x)]) (st' := []) (h' := kv_wd g w) rfl ?_
  refine kx_st 1 (pc' := 1) (L' := [some (.ref 65), some (.int 2), some (.int x)]) (st' := [.int 2]) (h' := kv_wd g w) rfl ?_
  refine kx_st 1 (pc' := 17) (L' := [some (.ref 65), some (.int 2), some (.int x)]) (st' := []) (h' := kv_wd g w) rfl ?_
  refine kx_st 2 (pc' := 19) (L' := [some (.ref 65), some (.int 2), some (.int x)]) (st' := [.int 3, .int 2]) (h' := kv_wd g w) rfl ?_
  refine kx_st 1 (pc' := 36) (L' := [some (.ref 65), some (.int 2), some (.int x)]) (st' := []) (h' := kv_wd g w) rfl ?_
  refine kx_st 2 (pc' := 39) (L' := [some (.ref 65), some (.int 2), some (.int x)]) (st' := [.int 6, .int 2]) (h' := kv_wd g w) rfl ?_
  refine kx_st 1 (pc' := 60) (L' := [some (.ref 65), some (.int 2), some (.int x)]) (st' := []) (h' := kv_wd g w) rfl ?_
  refine kx_st 2 (pc' := 62) (L' := [some (.ref 65), some (.int 2), some (.int x)]) (st' := [.int 2, .ref 65]) (h' := kv_wd g w) rfl ?_
  refine kx_call (z := 153) (as := [.int 2]) (rest := [.ref 65]) (v := some (.int 0)) (h1 := kv_wd g w) rfl (ev_mabove_2 (d := d + 1)) ?_
  refine kx_st 0 (pc' := 65) (L' := [some (.ref 65), some (.int 2), some (.int x)]) (st' := [.int 0, .ref 65]) (h' := kv_wd g w) rfl ?_
  refine kx_st 1 (pc' := 66) (L' := [some (.ref 65), some (.int 2), some (.int x)]) (st' := [.int x, .int 0, .ref 65]) (h' := kv_wd g w) rfl ?_
  refine kx_call (z := 205) (as := [.ref 65, .int 0, .int x]) (rest := []) (v := some (.int (x - M))) (h1 := kv_wd (kx_mx g c [12]) w) rfl (by exact ev_sl_0 (d := d + 0) (g := g) N M V c hs (by omega) x) ?_
  refine kx_st 0 (pc' := 69) (L' := [some (.ref 65), some (.int 2), some (.int x)]) (st' := [.int (x - M)]) (h' := kv_wd (kx_mx g c [12]) w) rfl ?_
  refine kx_ret (v := some (.int (x - M))) rfl ?_
  exact ⟨rfl, rfl⟩
set_option maxRecDepth 100000 in
theorem ev_ti_2_2 {E : kv_V} {d : Nat} {g : kv_S} {w : kv_W} (N M V : Int32) (c : Nat) (hs : kx_MS g c N M V) (hV : V = 2) (h40 : c + 4 ≤ 40) (x : Int32) : kv_ev E (d + 5) 206 [.ref 65, .int 2, .int x] (kv_wd g w) (some (.int (((x + N) * 2) - (1 - M)))) (kv_wd (kx_mx g c [30, 11, 10, 12]) w) := by
  refine kx_ev (d := d + 4) (by decide) (Nat.le_of_ble_eq_true rfl) ?_
  refine kx_st 0 (pc' := 0) (L' := [some (.ref 65), some (.int 2), some (.int x), none]) (st' := []) (h' := kv_wd g w) rfl ?_
  refine kx_st 1 (pc' := 1) (L' := [some (.ref 65), some (.int 2), some (.int x), none]) (st' := [.int 2]) (h' := kv_wd g w) rfl ?_
  refine kx_st 1 (pc' := 22) (L' := [some (.ref 65), some (.int 2), some (.int x), none]) (st' := []) (h' := kv_wd g w) rfl ?_
  refine kx_st 2 (pc' := 24) (L' := [some (.ref 65), some (.int 2), some (.int x), none]) (st' := [.int 2, .int 2]) (h' := kv_wd g w) rfl ?_
  refine kx_st 1 (pc' := 27) (L' := [some (.ref 65), some (.int 2), some (.int x), none]) (st' := []) (h' := kv_wd g w) rfl ?_
  refine kx_st 2 (pc' := 30) (L' := [some (.ref 65), some (.int 2), some (.int x), none]) (st' := [.int 30, .ref 65]) (h' := kv_wd g w) rfl ?_
  refine kx_call (z := 203) (as := [.ref 65, .int 30]) (rest := []) (v := none) (h1 := kv_wd (kx_mx g c [30]) w) rfl (ev_ran (d := d + 3) c hs.1 (by omega) 30) ?_
  refine kx_st 0 (pc' := 33) (L' := [some (.ref 65), some (.int 2), some (.int x), none]) (st' := []) (h' := kv_wd (kx_mx g c [30]) w) rfl ?_
  refine kx_st 3 (pc' := 36) (L' := [some (.ref 65), some (.int 2), some (.int x), none]) (st' := [.int x, .int 0, .ref 65]) (h' := kv_wd (kx_mx g c [30]) w) rfl ?_
  refine kx_call (z := 206) (as := [.ref 65, .int 0, .int x]) (rest := []) (v := some (.int ((x + N) * 2))) (h1 := kv_wd (kx_mx g c [30, 11, 10]) w) rfl (by rw [← show kx_mx (kx_mx g c [30]) (c + 1) [11, 10] = kx_mx g c [30, 11, 10] from kx_mx_app g c [30] [11, 10]]; exact ev_ti_2_0 (d := d + 0) (g := kx_mx g c [30]) N M V (c + 1) (kx_MS_mx [30] hs) hV (by omega) x) ?_
  refine kx_st 0 (pc' := 39) (L' := [some (.ref 65), some (.int 2), some (.int x), none]) (st' := [.int ((x + N) * 2)]) (h' := kv_wd (kx_mx g c [30, 11, 10]) w) rfl ?_
  refine kx_st 6 (pc' := 47) (L' := [some (.ref 65), some (.int 2), some (.int x), some (.int ((x + N) * 2))]) (st' := [.int 1, .int ((kx_mx g c [30, 11, 10]) 65 21), .ref 65, .int ((x + N) * 2)]) (h' := kv_wd (kx_mx g c [30, 11, 10]) w) rfl ?_
  refine kx_call (z := 205) (as := [.ref 65, .int ((kx_mx g c [30, 11, 10]) 65 21), .int 1]) (rest := [.int ((x + N) * 2)]) (v := some (.int (1 - M))) (h1 := kv_wd (kx_mx g c [30, 11, 10, 12]) w) rfl (by rw [← show kx_mx (kx_mx g c [30, 11, 10]) (c + 3) [12] = kx_mx g c [30, 11, 10, 12] from kx_mx_app g c [30, 11, 10] [12]]; rw [show (kx_mx g c [30, 11, 10]) 65 21 = 2 from (kx_MS_mx [30, 11, 10] hs).2.1.trans hV]; exact ev_sl_2 (d := d + 1) (g := kx_mx g c [30, 11, 10]) N M V (c + 3) (kx_MS_mx [30, 11, 10] hs) (by omega) 1) ?_
  refine kx_st 0 (pc' := 50) (L' := [some (.ref 65), some (.int 2), some (.int x), some (.int ((x + N) * 2))]) (st' := [.int (1 - M), .int ((x + N) * 2)]) (h' := kv_wd (kx_mx g c [30, 11, 10, 12]) w) rfl ?_
  refine kx_st 1 (pc' := 51) (L' := [some (.ref 65), some (.int 2), some (.int x), some (.int ((x + N) * 2))]) (st' := [.int (((x + N) * 2) - (1 - M))]) (h' := kv_wd (kx_mx g c [30, 11, 10, 12]) w) rfl ?_
  refine kx_ret (v := some (.int (((x + N) * 2) - (1 - M)))) rfl ?_
  exact ⟨rfl, rfl⟩
set_option maxRecDepth 100000 in
theorem ev_te_2_0 {E : kv_V} {d : Nat} {g : kv_S} {w : kv_W} (N M V : Int32) (c : Nat) (hs : kx_MS g c N M V) (hV : V = 2) (h40 : c + 6 ≤ 40) (x : Int32) : kv_ev E (d + 6) 207 [.ref 65, .int 0, .int x] (kv_wd g w) (some (.int ((((x + N) * 2) - (1 - M)) ^^^ (x - M)))) (kv_wd (kx_mx g c [13, 30, 11, 10, 12, 12]) w) := by
  refine kx_ev (d := d + 5) (by decide) (Nat.le_of_ble_eq_true rfl) ?_
  refine kx_st 0 (pc' := 0) (L' := [some (.ref 65), some (.int 0), some (.int x), none]) (st' := []) (h' := kv_wd g w) rfl ?_
  refine kx_st 1 (pc' := 1) (L' := [some (.ref 65), some (.int 0), some (.int x), none]) (st' := [.int 0]) (h' := kv_wd g w) rfl ?_
  refine kx_st 1 (pc' := 4) (L' := [some (.ref 65), some (.int 0), some (.int x), none]) (st' := []) (h' := kv_wd g w) rfl ?_
  refine kx_st 2 (pc' := 7) (L' := [some (.ref 65), some (.int 0), some (.int x), none]) (st' := [.int 13, .ref 65]) (h' := kv_wd g w) rfl ?_
  refine kx_call (z := 203) (as := [.ref 65, .int 13]) (rest := []) (v := none) (h1 := kv_wd (kx_mx g c [13]) w) rfl (ev_ran (d := d + 4) c hs.1 (by omega) 13) ?_
  refine kx_st 0 (pc' := 10) (L' := [some (.ref 65), some (.int 0), some (.int x), none]) (st' := []) (h' := kv_wd (kx_mx g c [13]) w) rfl ?_
  refine kx_st 4 (pc' := 16) (L' := [some (.ref 65), some (.int 0), some (.int x), none]) (st' := [.int x, .int ((kx_mx g c [13]) 65 21), .ref 65]) (h' := kv_wd (kx_mx g c [13]) w) rfl ?_
  refine kx_call (z := 206) (as := [.ref 65, .int ((kx_mx g c [13]) 65 21), .int x]) (rest := []) (v := some (.int (((x + N) * 2) - (1 - M)))) (h1 := kv_wd (kx_mx g c [13, 30, 11, 10, 12]) w) rfl (by rw [← show kx_mx (kx_mx g c [13]) (c + 1) [30, 11, 10, 12] = kx_mx g c [13, 30, 11, 10, 12] from kx_mx_app g c [13] [30, 11, 10, 12]]; rw [show (kx_mx g c [13]) 65 21 = 2 from (kx_MS_mx [13] hs).2.1.trans hV]; exact ev_ti_2_2 (d := d + 0) (g := kx_mx g c [13]) N M V (c + 1) (kx_MS_mx [13] hs) hV (by omega) x) ?_
  refine kx_st 0 (pc' := 19) (L' := [some (.ref 65), some (.int 0), some (.int x), none]) (st' := [.int (((x + N) * 2) - (1 - M))]) (h' := kv_wd (kx_mx g c [13, 30, 11, 10, 12]) w) rfl ?_
  refine kx_st 6 (pc' := 27) (L' := [some (.ref 65), some (.int 0), some (.int x), some (.int (((x + N) * 2) - (1 - M)))]) (st' := [.int x, .int ((kx_mx g c [13, 30, 11, 10, 12]) 65 21), .ref 65, .int (((x + N) * 2) - (1 - M))]) (h' := kv_wd (kx_mx g c [13, 30, 11, 10, 12]) w) rfl ?_
  refine kx_call (z := 205) (as := [.ref 65, .int ((kx_mx g c [13, 30, 11, 10, 12]) 65 21), .int x]) (rest := [.int (((x + N) * 2) - (1 - M))]) (v := some (.int (x - M))) (h1 := kv_wd (kx_mx g c [13, 30, 11, 10, 12, 12]) w) rfl (by rw [← show kx_mx (kx_mx g c [13, 30, 11, 10, 12]) (c + 5) [12] = kx_mx g c [13, 30, 11, 10, 12, 12] from kx_mx_app g c [13, 30, 11, 10, 12] [12]]; rw [show (kx_mx g c [13, 30, 11, 10, 12]) 65 21 = 2 from (kx_MS_mx [13, 30, 11, 10, 12] hs).2.1.trans hV]; exact ev_sl_2 (d := d + 2) (g := kx_mx g c [13, 30, 11, 10, 12]) N M V (c + 5) (kx_MS_mx [13, 30, 11, 10, 12] hs) (by omega) x) ?_
  refine kx_st 0 (pc' := 30) (L' := [some (.ref 65), some (.int 0), some (.int x), some (.int (((x + N) * 2) - (1 - M)))]) (st' := [.int (x - M), .int (((x + N) * 2) - (1 - M))]) (h' := kv_wd (kx_mx g c [13, 30, 11, 10, 12, 12]) w) rfl ?_
  refine kx_st 1 (pc' := 31) (L' := [some (.ref 65), some (.int 0), some (.int x), some (.int (((x + N) * 2) - (1 - M)))]) (st' := [.int ((((x + N) * 2) - (1 - M)) ^^^ (x - M))]) (h' := kv_wd (kx_mx g c [13, 30, 11, 10, 12, 12]) w) rfl ?_
  refine kx_ret (v := some (.int ((((x + N) * 2) - (1 - M)) ^^^ (x - M)))) rfl ?_
  exact ⟨rfl, rfl⟩
set_option maxRecDepth 100000 in
theorem ev_te_2_2 {E : kv_V} {d : Nat} {g : kv_S} {w : kv_W} (N M V : Int32) (c : Nat) (hs : kx_MS g c N M V) (hV : V = 2) (h40 : c + 6 ≤ 40) (x : Int32) : kv_ev E (d + 7) 207 [.ref 65, .int 2, .int x] (kv_wd g w) (some (.int ((((x + N) * 2) - (1 - M)) ^^^ (x - M)))) (kv_wd (kx_mx g c [13, 30, 11, 10, 12, 12]) w) := by
  refine kx_ev (d := d + 6) (by decide) (Nat.le_of_ble_eq_true rfl) ?_
  refine kx_st 0 (pc' := 0) (L' := [some (.ref 65), some (.int 2), some (.int x), none]) (st' := []) (h' := kv_wd g w) rfl ?_
  refine kx_st 1 (pc' := 1) (L' := [some (.ref 65), some (.int 2), some (.int x), none]) (st' := [.int 2]) (h' := kv_wd g w) rfl ?_
  refine kx_st 1 (pc' := 32) (L' := [some (.ref 65), some (.int 2), some (.int x), none]) (st' := []) (h' := kv_wd g w) rfl ?_
  refine kx_st 2 (pc' := 34) (L' := [some (.ref 65), some (.int 2), some (.int x), none]) (st' := [.int 4, .int 2]) (h' := kv_wd g w) rfl ?_
  refine kx_st 1 (pc' := 62) (L' := [some (.ref 65), some (.int 2), some (.int x), none]) (st' := []) (h' := kv_wd g w) rfl ?_
  refine kx_st 2 (pc' := 65) (L' := [some (.ref 65), some (.int 2), some (.int x), none]) (st' := [.int 6, .int 2]) (h' := kv_wd g w) rfl ?_
  refine kx_st 1 (pc' := 93) (L' := [some (.ref 65), some (.int 2), some (.int x), none]) (st' := []) (h' := kv_wd g w) rfl ?_
  refine kx_st 2 (pc' := 95) (L' := [some (.ref 65), some (.int 2), some (.int x), none]) (st' := [.int 2, .ref 65]) (h' := kv_wd g w) rfl ?_
  refine kx_call (z := 153) (as := [.int 2]) (rest := [.ref 65]) (v := some (.int 0)) (h1 := kv_wd g w) rfl (ev_mabove_2 (d := d + 5)) ?_
  refine kx_st 0 (pc' := 98) (L' := [some (.ref 65), some (.int 2), some (.int x), none]) (st' := [.int 0, .ref 65]) (h' := kv_wd g w) rfl ?_
  refine kx_st 1 (pc' := 99) (L' := [some (.ref 65), some (.int 2), some (.int x), none]) (st' := [.int x, .int 0, .ref 65]) (h' := kv_wd g w) rfl ?_
  refine kx_call (z := 207) (as := [.ref 65, .int 0, .int x]) (rest := []) (v := some (.int ((((x + N) * 2) - (1 - M)) ^^^ (x - M)))) (h1 := kv_wd (kx_mx g c [13, 30, 11, 10, 12, 12]) w) rfl (by exact ev_te_2_0 (d := d + 0) (g := g) N M V c hs hV (by omega) x) ?_
  refine kx_st 0 (pc' := 102) (L' := [some (.ref 65), some (.int 2), some (.int x), none]) (st' := [.int ((((x + N) * 2) - (1 - M)) ^^^ (x - M))]) (h' := kv_wd (kx_mx g c [13, 30, 11, 10, 12, 12]) w) rfl ?_
  refine kx_ret (v := some (.int ((((x + N) * 2) - (1 - M)) ^^^ (x - M)))) rfl ?_
  exact ⟨rfl, rfl⟩
set_option maxRecDepth 100000 in
theorem ev_bi_3 {E : kv_V} {d : Nat} {g : kv_S} {w : kv_W} (N M V : Int32) (c : Nat) (hs : kx_MS g c N M V) (h40 : c + 1 ≤ 40) (x : Int32) : kv_ev E (d + 3) 204 [.ref 65, .int 3, .int x] (kv_wd g w) (some (.int (x + N))) (kv_wd (kx_mx g c [10]) w) := by
  refine kx_ev (d := d + 2) (by decide) (Nat.le_of_ble_eq_true rfl) ?_
  refine kx_st 0 (pc' := 0) (L' := [some (.ref 65), some (.int 3), some (.int x)]) (st' := []) (h' := kv_wd g w) rfl ?_
  refine kx_st 1 (pc' := 1) (L' := [some (.ref 65), some (.int 3), some (.int x)]) (st' := [.int 3]) (h' := kv_wd g w) rfl ?_
  refine kx_st 1 (pc' := 17) (L' := [some (.ref 65), some (.int 3), some (.int x)]) (st' := []) (h' := kv_wd g w) rfl ?_
  refine kx_st 2 (pc' := 19) (L' := [some (.ref 65), some (.int 3), some (.int x)]) (st' := [.int 1, .int 3]) (h' := kv_wd g w) rfl ?_
  refine kx_st 1 (pc' := 37) (L' := [some (.ref 65), some (.int 3), some (.int x)]) (st' := []) (h' := kv_wd g w) rfl ?_
  refine kx_st 2 (pc' := 39) (L' := [some (.ref 65), some (.int 3), some (.int x)]) (st' := [.int 3, .ref 65]) (h' := kv_wd g w) rfl ?_
  refine kx_call (z := 153) (as := [.int 3]) (rest := [.ref 65]) (v := some (.int 0)) (h1 := kv_wd g w) rfl (ev_mabove_3 (d := d + 1)) ?_
  refine kx_st 0 (pc' := 42) (L' := [some (.ref 65), some (.int 3), some (.int x)]) (st' := [.int 0, .ref 65]) (h' := kv_wd g w) rfl ?_
  refine kx_st 1 (pc' := 43) (L' := [some (.ref 65), some (.int 3), some (.int x)]) (st' := [.int x, .int 0, .ref 65]) (h' := kv_wd g w) rfl ?_
  refine kx_call (z := 204) (as := [.ref 65, .int 0, .int x]) (rest := []) (v := some (.int (x + N))) (h1 := kv_wd (kx_mx g c [10]) w) rfl (by exact ev_bi_0 (d := d + 0) (g := g) N M V c hs (by omega) x) ?_
  refine kx_st 0 (pc' := 46) (L' := [some (.ref 65), some (.int 3), some (.int x)]) (st' := [.int (x + N)]) (h' := kv_wd (kx_mx g c [10]) w) rfl ?_
  refine kx_ret (v := some (.int (x + N))) rfl ?_
  exact ⟨rfl, rfl⟩
set_option maxRecDepth 100000 in
theorem ev_ti_3_0 {E : kv_V} {d : Nat} {g : kv_S} {w : kv_W} (N M V : Int32) (c : Nat) (hs : kx_MS g c N M V) (hV : V = 3) (h40 : c + 2 ≤ 40) (x : Int32) : kv_ev E (d + 4) 206 [.ref 65, .int 0, .int x] (kv_wd g w) (some (.int ((x + N) * 2))) (kv_wd (kx_mx g c [11, 10]) w) := by
  refine kx_ev (d := d + 3) (by decide) (Nat.le_of_ble_eq_true rfl) ?_
  refine kx_st 0 (pc' := 0) (L' := [some (.ref 65), some (.int 0), some (.int x), none]) (st' := []) (h' := kv_wd g w) rfl ?_
  refine kx_st 1 (pc' := 1) (L' := [some (.ref 65), some (.int 0), some (.int x), none]) (st' := [.int 0]) (h' := kv_wd g w) rfl ?_
  refine kx_st 1 (pc' := 4) (L' := [some (.ref 65), some (.int 0), some (.int x), none]) (st' := []) (h' := kv_wd g w) rfl ?_
  refine kx_st 2 (pc' := 7) (L' := [some (.ref 65), some (.int 0), some (.int x), none]) (st' := [.int 11, .ref 65]) (h' := kv_wd g w) rfl ?_
  refine kx_call (z := 203) (as := [.ref 65, .int 11]) (rest := []) (v := none) (h1 := kv_wd (kx_mx g c [11]) w) rfl (ev_ran (d := d + 2) c hs.1 (by omega) 11) ?_
  refine kx_st 0 (pc' := 10) (L' := [some (.ref 65), some (.int 0), some (.int x), none]) (st' := []) (h' := kv_wd (kx_mx g c [11]) w) rfl ?_
  refine kx_st 4 (pc' := 16) (L' := [some (.ref 65), some (.int 0), some (.int x), none]) (st' := [.int x, .int ((kx_mx g c [11]) 65 21), .ref 65]) (h' := kv_wd (kx_mx g c [11]) w) rfl ?_
  refine kx_call (z := 204) (as := [.ref 65, .int ((kx_mx g c [11]) 65 21), .int x]) (rest := []) (v := some (.int (x + N))) (h1 := kv_wd (kx_mx g c [11, 10]) w) rfl (by rw [← show kx_mx (kx_mx g c [11]) (c + 1) [10] = kx_mx g c [11, 10] from kx_mx_app g c [11] [10]]; rw [show (kx_mx g c [11]) 65 21 = 3 from (kx_MS_mx [11] hs).2.1.trans hV]; exact ev_bi_3 (d := d + 0) (g := kx_mx g c [11]) N M V (c + 1) (kx_MS_mx [11] hs) (by omega) x) ?_
  refine kx_st 0 (pc' := 19) (L' := [some (.ref 65), some (.int 0), some (.int x), none]) (st' := [.int (x + N)]) (h' := kv_wd (kx_mx g c [11, 10]) w) rfl ?_
  refine kx_st 2 (pc' := 21) (L' := [some (.ref 65), some (.int 0), some (.int x), none]) (st' := [.int ((x + N) * 2)]) (h' := kv_wd (kx_mx g c [11, 10]) w) rfl ?_
  refine kx_ret (v := some (.int ((x + N) * 2))) rfl ?_
  exact ⟨rfl, rfl⟩
set_option maxRecDepth 100000 in
theorem ev_ti_3_3 {E : kv_V} {d : Nat} {g : kv_S} {w : kv_W} (N M V : Int32) (c : Nat) (hs : kx_MS g c N M V) (hV : V = 3) (h40 : c + 2 ≤ 40) (x : Int32) : kv_ev E (d + 5) 206 [.ref 65, .int 3, .int x] (kv_wd g w) (some (.int ((x + N) * 2))) (kv_wd (kx_mx g c [11, 10]) w) := by
  refine kx_ev (d := d + 4) (by decide) (Nat.le_of_ble_eq_true rfl) ?_
  refine kx_st 0 (pc' := 0) (L' := [some (.ref 65), some (.int 3), some (.int x), none]) (st' := []) (h' := kv_wd g w) rfl ?_
  refine kx_st 1 (pc' := 1) (L' := [some (.ref 65), some (.int 3), some (.int x), none]) (st' := [.int 3]) (h' := kv_wd g w) rfl ?_
  refine kx_st 1 (pc' := 22) (L' := [some (.ref 65), some (.int 3), some (.int x), none]) (st' := []) (h' := kv_wd g w) rfl ?_
  refine kx_st 2 (pc' := 24) (L' := [some (.ref 65), some (.int 3), some (.int x), none]) (st' := [.int 2, .int 3]) (h' := kv_wd g w) rfl ?_
  refine kx_st 1 (pc' := 52) (L' := [some (.ref 65), some (.int 3), some (.int x), none]) (st' := []) (h' := kv_wd g w) rfl ?_
  refine kx_st 2 (pc' := 54) (L' := [some (.ref 65), some (.int 3), some (.int x), none]) (st' := [.int 5, .int 3]) (h' := kv_wd g w) rfl ?_
  refine kx_st 1 (pc' := 72) (L' := [some (.ref 65), some (.int 3), some (.int x), none]) (st' := []) (h' := kv_wd g w) rfl ?_
  refine kx_st 2 (pc' := 74) (L' := [some (.ref 65), some (.int 3), some (.int x), none]) (st' := [.int 3, .ref 65]) (h' := kv_wd g w) rfl ?_
  refine kx_call (z := 153) (as := [.int 3]) (rest := [.ref 65]) (v := some (.int 0)) (h1 := kv_wd g w) rfl (ev_mabove_3 (d := d + 3)) ?_
  refine kx_st 0 (pc' := 77) (L' := [some (.ref 65), some (.int 3), some (.int x), none]) (st' := [.int 0, .ref 65]) (h' := kv_wd g w) rfl ?_
  refine kx_st 1 (pc' := 78) (L' := [some (.ref 65), some (.int 3), some (.int x), none]) (st' := [.int x, .int 0, .ref 65]) (h' := kv_wd g w) rfl ?_
  refine kx_call (z := 206) (as := [.ref 65, .int 0, .int x]) (rest := []) (v := some (.int ((x + N) * 2))) (h1 := kv_wd (kx_mx g c [11, 10]) w) rfl (by exact ev_ti_3_0 (d := d + 0) (g := g) N M V c hs hV (by omega) x) ?_
  refine kx_st 0 (pc' := 81) (L' := [some (.ref 65), some (.int 3), some (.int x), none]) (st' := [.int ((x + N) * 2)]) (h' := kv_wd (kx_mx g c [11, 10]) w) rfl ?_
  refine kx_ret (v := some (.int ((x + N) * 2))) rfl ?_
  exact ⟨rfl, rfl⟩
set_option maxRecDepth 100000 in
theorem ev_sl_3 {E : kv_V} {d : Nat} {g : kv_S} {w : kv_W} (N M V : Int32) (c : Nat) (hs : kx_MS g c N M V) (h40 : c + 2 ≤ 40) (x : Int32) : kv_ev E (d + 3) 205 [.ref 65, .int 3, .int x] (kv_wd g w) (some (.int (-(x - M)))) (kv_wd (kx_mx g c [40, 12]) w) := by
  refine kx_ev (d := d + 2) (by decide) (Nat.le_of_ble_eq_true rfl) ?_
  refine kx_st 0 (pc' := 0) (L' := [some (.ref 65), some (.int 3), some (.int x)]) (st' := []) (h' := kv_wd g w) rfl ?_
  refine kx_st 1 (pc' := 1) (L' := [some (.ref 65), some (.int 3), some (.int x)]) (st' := [.int 3]) (h' := kv_wd g w) rfl ?_
  refine kx_st 1 (pc' := 17) (L' := [some (.ref 65), some (.int 3), some (.int x)]) (st' := []) (h' := kv_wd g w) rfl ?_
  refine kx_st 2 (pc' := 19) (L' := [some (.ref 65), some (.int 3), some (.int x)]) (st' := [.int 3, .int 3]) (h' := kv_wd g w) rfl ?_
  refine kx_st 1 (pc' := 22) (L' := [some (.ref 65), some (.int 3), some (.int x)]) (st' := []) (h' := kv_wd g w) rfl ?_
  refine kx_st 2 (pc' := 25) (L' := [some (.ref 65), some (.int 3), some (.int x)]) (st' := [.int 40, .ref 65]) (h' := kv_wd g w) rfl ?_
  refine kx_call (z := 203) (as := [.ref 65, .int 40]) (rest := []) (v := none) (h1 := kv_wd (kx_mx g c [40]) w) rfl (ev_ran (d := d + 1) c hs.1 (by omega) 40) ?_
  refine kx_st 0 (pc' := 28) (L' := [some (.ref 65), some (.int 3), some (.int x)]) (st' := []) (h' := kv_wd (kx_mx g c [40]) w) rfl ?_
  refine kx_st 3 (pc' := 31) (L' := [some (.ref 65), some (.int 3), some (.int x)]) (st' := [.int x, .int 0, .ref 65]) (h' := kv_wd (kx_mx g c [40]) w) rfl ?_
  refine kx_call (z := 205) (as := [.ref 65, .int 0, .int x]) (rest := []) (v := some (.int (x - M))) (h1 := kv_wd (kx_mx g c [40, 12]) w) rfl (by rw [← show kx_mx (kx_mx g c [40]) (c + 1) [12] = kx_mx g c [40, 12] from kx_mx_app g c [40] [12]]; exact ev_sl_0 (d := d + 0) (g := kx_mx g c [40]) N M V (c + 1) (kx_MS_mx [40] hs) (by omega) x) ?_
  refine kx_st 0 (pc' := 34) (L' := [some (.ref 65), some (.int 3), some (.int x)]) (st' := [.int (x - M)]) (h' := kv_wd (kx_mx g c [40, 12]) w) rfl ?_
  refine kx_st 1 (pc' := 35) (L' := [some (.ref 65), some (.int 3), some (.int x)]) (st' := [.int (-(x - M))]) (h' := kv_wd (kx_mx g c [40, 12]) w) rfl ?_
  refine kx_ret (v := some (.int (-(x - M)))) rfl ?_
  exact ⟨rfl, rfl⟩
set_option maxRecDepth 100000 in
theorem ev_te_3_0 {E : kv_V} {d : Nat} {g : kv_S} {w : kv_W} (N M V : Int32) (c : Nat) (hs : kx_MS g c N M V) (hV : V = 3) (h40 : c + 5 ≤ 40) (x : Int32) : kv_ev E (d + 6) 207 [.ref 65, .int 0, .int x] (kv_wd g w) (some (.int (((x + N) * 2) ^^^ (-(x - M))))) (kv_wd (kx_mx g c [13, 11, 10, 40, 12]) w) := by
  refine kx_ev (d := d + 5) (by decide) (Nat.le_of_ble_eq_true rfl) ?_
  refine kx_st 0 (pc' := 0) (L' := [some (.ref 65), some (.int 0), some (.int x), none]) (st' := []) (h' := kv_wd g w) rfl ?_
  refine kx_st 1 (pc' := 1) (L' := [some (.ref 65), some (.int 0), some (.int x), none]) (st' := [.int 0]) (h' := kv_wd g w) rfl ?_
  refine kx_st 1 (pc' := 4) (L' := [some (.ref 65), some (.int 0), some (.int x), none]) (st' := []) (h' := kv_wd g w) rfl ?_
  refine kx_st 2 (pc' := 7) (L' := [some (.ref 65), some (.int 0), some (.int x), none]) (st' := [.int 13, .ref 65]) (h' := kv_wd g w) rfl ?_
  refine kx_call (z := 203) (as := [.ref 65, .int 13]) (rest := []) (v := none) (h1 := kv_wd (kx_mx g c [13]) w) rfl (ev_ran (d := d + 4) c hs.1 (by omega) 13) ?_
  refine kx_st 0 (pc' := 10) (L' := [some (.ref 65), some (.int 0), some (.int x), none]) (st' := []) (h' := kv_wd (kx_mx g c [13]) w) rfl ?_
  refine kx_st 4 (pc' := 16) (L' := [some (.ref 65), some (.int 0), some (.int x), none]) (st' := [.int x, .int ((kx_mx g c [13]) 65 21), .ref 65]) (h' := kv_wd (kx_mx g c [13]) w) rfl ?_
  refine kx_call (z := 206) (as := [.ref 65, .int ((kx_mx g c [13]) 65 21), .int x]) (rest := []) (v := some (.int ((x + N) * 2))) (h1 := kv_wd (kx_mx g c [13, 11, 10]) w) rfl (by rw [← show kx_mx (kx_mx g c [13]) (c + 1) [11, 10] = kx_mx g c [13, 11, 10] from kx_mx_app g c [13] [11, 10]]; rw [show (kx_mx g c [13]) 65 21 = 3 from (kx_MS_mx [13] hs).2.1.trans hV]; exact ev_ti_3_3 (d := d + 0) (g := kx_mx g c [13]) N M V (c + 1) (kx_MS_mx [13] hs) hV (by omega) x) ?_
  refine kx_st 0 (pc' := 19) (L' := [some (.ref 65), some (.int 0), some (.int x), none]) (st' := [.int ((x + N) * 2)]) (h' := kv_wd (kx_mx g c [13, 11, 10]) w) rfl ?_
  refine kx_st 6 (pc' := 27) (L' := [some (.ref 65), some (.int 0), some (.int x), some (.int ((x + N) * 2))]) (st' := [.int x, .int ((kx_mx g c [13, 11, 10]) 65 21), .ref 65, .int ((x + N) * 2)]) (h' := kv_wd (kx_mx g c [13, 11, 10]) w) rfl ?_
  refine kx_call (z := 205) (as := [.ref 65, .int ((kx_mx g c [13, 11, 10]) 65 21), .int x]) (rest := [.int ((x + N) * 2)]) (v := some (.int (-(x - M)))) (h1 := kv_wd (kx_mx g c [13, 11, 10, 40, 12]) w) rfl (by rw [← show kx_mx (kx_mx g c [13, 11, 10]) (c + 3) [40, 12] = kx_mx g c [13, 11, 10, 40, 12] from kx_mx_app g c [13, 11, 10] [40, 12]]; rw [show (kx_mx g c [13, 11, 10]) 65 21 = 3 from (kx_MS_mx [13, 11, 10] hs).2.1.trans hV]; exact ev_sl_3 (d := d + 2) (g := kx_mx g c [13, 11, 10]) N M V (c + 3) (kx_MS_mx [13, 11, 10] hs) (by omega) x) ?_
  refine kx_st 0 (pc' := 30) (L' := [some (.ref 65), some (.int 0), some (.int x), some (.int ((x + N) * 2))]) (st' := [.int (-(x - M)), .int ((x + N) * 2)]) (h' := kv_wd (kx_mx g c [13, 11, 10, 40, 12]) w) rfl ?_
  refine kx_st 1 (pc' := 31) (L' := [some (.ref 65), some (.int 0), some (.int x), some (.int ((x + N) * 2))]) (st' := [.int (((x + N) * 2) ^^^ (-(x - M)))]) (h' := kv_wd (kx_mx g c [13, 11, 10, 40, 12]) w) rfl ?_
  refine kx_ret (v := some (.int (((x + N) * 2) ^^^ (-(x - M))))) rfl ?_
  exact ⟨rfl, rfl⟩
set_option maxRecDepth 100000 in
theorem ev_te_3_3 {E : kv_V} {d : Nat} {g : kv_S} {w : kv_W} (N M V : Int32) (c : Nat) (hs : kx_MS g c N M V) (hV : V = 3) (h40 : c + 5 ≤ 40) (x : Int32) : kv_ev E (d + 7) 207 [.ref 65, .int 3, .int x] (kv_wd g w) (some (.int (((x + N) * 2) ^^^ (-(x - M))))) (kv_wd (kx_mx g c [13, 11, 10, 40, 12]) w) := by
  refine kx_ev (d := d + 6) (by decide) (Nat.le_of_ble_eq_true rfl) ?_
  refine kx_st 0 (pc' := 0) (L' := [some (.ref 65), some (.int 3), some (.int x), none]) (st' := []) (h' := kv_wd g w) rfl ?_
  refine kx_st 1 (pc' := 1) (L' := [some (.ref 65), some (.int 3), some (.int x), none]) (st' := [.int 3]) (h' := kv_wd g w) rfl ?_
  refine kx_st 1 (pc' := 32) (L' := [some (.ref 65), some (.int 3), some (.int x), none]) (st' := []) (h' := kv_wd g w) rfl ?_
  refine kx_st 2 (pc' := 34) (L' := [some (.ref 65), some (.int 3), some (.int x), none]) (st' := [.int 4, .int 3]) (h' := kv_wd g w) rfl ?_
  refine kx_st 1 (pc' := 62) (L' := [some (.ref 65), some (.int 3), some (.int x), none]) (st' := []) (h' := kv_wd g w) rfl ?_
  refine kx_st 2 (pc' := 65) (L' := [some (.ref 65), some (.int 3), some (.int x), none]) (st' := [.int 6, .int 3]) (h' := kv_wd g w) rfl ?_
  refine kx_st 1 (pc' := 93) (L' := [some (.ref 65), some (.int 3), some (.int x), none]) (st' := []) (h' := kv_wd g w) rfl ?_
  refine kx_st 2 (pc' := 95) (L' := [some (.ref 65), some (.int 3), some (.int x), none]) (st' := [.int 3, .ref 65]) (h' := kv_wd g w) rfl ?_
  refine kx_call (z := 153) (as := [.int 3]) (rest := [.ref 65]) (v := some (.int 0)) (h1 := kv_wd g w) rfl (ev_mabove_3 (d := d + 5)) ?_
  refine kx_st 0 (pc' := 98) (L' := [some (.ref 65), some (.int 3), some (.int x), none]) (st' := [.int 0, .ref 65]) (h' := kv_wd g w) rfl ?_
  refine kx_st 1 (pc' := 99) (L' := [some (.ref 65), some (.int 3), some (.int x), none]) (st' := [.int x, .int 0, .ref 65]) (h' := kv_wd g w) rfl ?_
  refine kx_call (z := 207) (as := [.ref 65, .int 0, .int x]) (rest := []) (v := some (.int (((x + N) * 2) ^^^ (-(x - M))))) (h1 := kv_wd (kx_mx g c [13, 11, 10, 40, 12]) w) rfl (by exact ev_te_3_0 (d := d + 0) (g := g) N M V c hs hV (by omega) x) ?_
  refine kx_st 0 (pc' := 102) (L' := [some (.ref 65), some (.int 3), some (.int x), none]) (st' := [.int (((x + N) * 2) ^^^ (-(x - M)))]) (h' := kv_wd (kx_mx g c [13, 11, 10, 40, 12]) w) rfl ?_
  refine kx_ret (v := some (.int (((x + N) * 2) ^^^ (-(x - M))))) rfl ?_
  exact ⟨rfl, rfl⟩
set_option maxRecDepth 100000 in
theorem ev_bi_4 {E : kv_V} {d : Nat} {g : kv_S} {w : kv_W} (N M V : Int32) (c : Nat) (hs : kx_MS g c N M V) (h40 : c + 2 ≤ 40) (x : Int32) : kv_ev E (d + 4) 204 [.ref 65, .int 4, .int x] (kv_wd g w) (some (.int ((x + N) * 3))) (kv_wd (kx_mx g c [20, 10]) w) := by
  refine kx_ev (d := d + 3) (by decide) (Nat.le_of_ble_eq_true rfl) ?_
  refine kx_st 0 (pc' := 0) (L' := [some (.ref 65), some (.int 4), some (.int x)]) (st' := []) (h' := kv_wd g w) rfl ?_
  refine kx_st 1 (pc' := 1) (L' := [some (.ref 65), some (.int 4), some (.int x)]) (st' := [.int 4]) (h' := kv_wd g w) rfl ?_
  refine kx_st 1 (pc' := 17) (L' := [some (.ref 65), some (.int 4), some (.int x)]) (st' := []) (h' := kv_wd g w) rfl ?_
  refine kx_st 2 (pc' := 19) (L' := [some (.ref 65), some (.int 4), some (.int x)]) (st' := [.int 1, .int 4]) (h' := kv_wd g w) rfl ?_
  refine kx_st 1 (pc' := 37) (L' := [some (.ref 65), some (.int 4), some (.int x)]) (st' := []) (h' := kv_wd g w) rfl ?_
  refine kx_st 2 (pc' := 39) (L' := [some (.ref 65), some (.int 4), some (.int x)]) (st' := [.int 4, .ref 65]) (h' := kv_wd g w) rfl ?_
  refine kx_call (z := 153) (as := [.int 4]) (rest := [.ref 65]) (v := some (.int 1)) (h1 := kv_wd g w) rfl (ev_mabove_4 (d := d + 2)) ?_
  refine kx_st 0 (pc' := 42) (L' := [some (.ref 65), some (.int 4), some (.int x)]) (st' := [.int 1, .ref 65]) (h' := kv_wd g w) rfl ?_
  refine kx_st 1 (pc' := 43) (L' := [some (.ref 65), some (.int 4), some (.int x)]) (st' := [.int x, .int 1, .ref 65]) (h' := kv_wd g w) rfl ?_
  refine kx_call (z := 204) (as := [.ref 65, .int 1, .int x]) (rest := []) (v := some (.int ((x + N) * 3))) (h1 := kv_wd (kx_mx g c [20, 10]) w) rfl (by exact ev_bi_1 (d := d + 0) (g := g) N M V c hs (by omega) x) ?_
  refine kx_st 0 (pc' := 46) (L' := [some (.ref 65), some (.int 4), some (.int x)]) (st' := [.int ((x + N) * 3)]) (h' := kv_wd (kx_mx g c [20, 10]) w) rfl ?_
  refine kx_ret (v := some (.int ((x + N) * 3))) rfl ?_
  exact ⟨rfl, rfl⟩
set_option maxRecDepth 100000 in
theorem ev_ti_4_0 {E : kv_V} {d : Nat} {g : kv_S} {w : kv_W} (N M V : Int32) (c : Nat) (hs : kx_MS g c N M V) (hV : V = 4) (h40 : c + 3 ≤ 40) (x : Int32) : kv_ev E (d + 5) 206 [.ref 65, .int 0, .int x] (kv_wd g w) (some (.int (((x + N) * 3) * 2))) (kv_wd (kx_mx g c [11, 20, 10]) w) := by
  refine kx_ev (d := d + 4) (by decide) (Nat.le_of_ble_eq_true rfl) ?_
  refine kx_st 0 (pc' := 0) (L' := [some (.ref 65), some (.int 0), some (.int x), none]) (st' := []) (h' := kv_wd g w) rfl ?_
  refine kx_st 1 (pc' := 1) (L' := [some (.ref 65), some (.int 0), some (.int x), none]) (st' := [.int 0]) (h' := kv_wd g w) rfl ?_
  refine kx_st 1 (pc' := 4) (L' := [some (.ref 65), some (.int 0), some (.int x), none]) (st' := []) (h' := kv_wd g w) rfl ?_
  refine kx_st 2 (pc' := 7) (L' := [some (.ref 65), some (.int 0), some (.int x), none]) (st' := [.int 11, .ref 65]) (h' := kv_wd g w) rfl ?_
  refine kx_call (z := 203) (as := [.ref 65, .int 11]) (rest := []) (v := none) (h1 := kv_wd (kx_mx g c [11]) w) rfl (ev_ran (d := d + 3) c hs.1 (by omega) 11) ?_
  refine kx_st 0 (pc' := 10) (L' := [some (.ref 65), some (.int 0), some (.int x), none]) (st' := []) (h' := kv_wd (kx_mx g c [11]) w) rfl ?_
  refine kx_st 4 (pc' := 16) (L' := [some (.ref 65), some (.int 0), some (.int x), none]) (st' := [.int x, .int ((kx_mx g c [11]) 65 21), .ref 65]) (h' := kv_wd (kx_mx g c [11]) w) rfl ?_
  refine kx_call (z := 204) (as := [.ref 65, .int ((kx_mx g c [11]) 65 21), .int x]) (rest := []) (v := some (.int ((x + N) * 3))) (h1 := kv_wd (kx_mx g c [11, 20, 10]) w) rfl (by rw [← show kx_mx (kx_mx g c [11]) (c + 1) [20, 10] = kx_mx g c [11, 20, 10] from kx_mx_app g c [11] [20, 10]]; rw [show (kx_mx g c [11]) 65 21 = 4 from (kx_MS_mx [11] hs).2.1.trans hV]; exact ev_bi_4 (d := d + 0) (g := kx_mx g c [11]) N M V (c + 1) (kx_MS_mx [11] hs) (by omega) x) ?_
  refine kx_st 0 (pc' := 19) (L' := [some (.ref 65), some (.int 0), some (.int x), none]) (st' := [.int ((x + N) * 3)]) (h' := kv_wd (kx_mx g c [11, 20, 10]) w) rfl ?_
  refine kx_st 2 (pc' := 21) (L' := [some (.ref 65), some (.int 0), some (.int x), none]) (st' := [.int (((x + N) * 3) * 2)]) (h' := kv_wd (kx_mx g c [11, 20, 10]) w) rfl ?_
  refine kx_ret (v := some (.int (((x + N) * 3) * 2))) rfl ?_
  exact ⟨rfl, rfl⟩
set_option maxRecDepth 100000 in
theorem ev_ti_4_1 {E : kv_V} {d : Nat} {g : kv_S} {w : kv_W} (N M V : Int32) (c : Nat) (hs : kx_MS g c N M V) (hV : V = 4) (h40 : c + 3 ≤ 40) (x : Int32) : kv_ev E (d + 6) 206 [.ref 65, .int 1, .int x] (kv_wd g w) (some (.int (((x + N) * 3) * 2))) (kv_wd (kx_mx g c [11, 20, 10]) w) := by
  refine kx_ev (d := d + 5) (by decide) (Nat.le_of_ble_eq_true rfl) ?_
  refine kx_st 0 (pc' := 0) (L' := [some (.ref 65), some (.int 1), some (.int x), none]) (st' := []) (h' := kv_wd g w) rfl ?_
  refine kx_st 1 (pc' := 1) (L' := [some (.ref 65), some (.int 1), some (.int x), none]) (st' := [.int 1]) (h' := kv_wd g w) rfl ?_
  refine kx_st 1 (pc' := 22) (L' := [some (.ref 65), some (.int 1), some (.int x), none]) (st' := []) (h' := kv_wd g w) rfl ?_
  refine kx_st 2 (pc' := 24) (L' := [some (.ref 65), some (.int 1), some (.int x), none]) (st' := [.int 2, .int 1]) (h' := kv_wd g w) rfl ?_
  refine kx_st 1 (pc' := 52) (L' := [some (.ref 65), some (.int 1), some (.int x), none]) (st' := []) (h' := kv_wd g w) rfl ?_
  refine kx_st 2 (pc' := 54) (L' := [some (.ref 65), some (.int 1), some (.int x), none]) (st' := [.int 5, .int 1]) (h' := kv_wd g w) rfl ?_
  refine kx_st 1 (pc' := 72) (L' := [some (.ref 65), some (.int 1), some (.int x), none]) (st' := []) (h' := kv_wd g w) rfl ?_
  refine kx_st 2 (pc' := 74) (L' := [some (.ref 65), some (.int 1), some (.int x), none]) (st' := [.int 1, .ref 65]) (h' := kv_wd g w) rfl ?_
  refine kx_call (z := 153) (as := [.int 1]) (rest := [.ref 65]) (v := some (.int 0)) (h1 := kv_wd g w) rfl (ev_mabove_1 (d := d + 4)) ?_
  refine kx_st 0 (pc' := 77) (L' := [some (.ref 65), some (.int 1), some (.int x), none]) (st' := [.int 0, .ref 65]) (h' := kv_wd g w) rfl ?_
  refine kx_st 1 (pc' := 78) (L' := [some (.ref 65), some (.int 1), some (.int x), none]) (st' := [.int x, .int 0, .ref 65]) (h' := kv_wd g w) rfl ?_
  refine kx_call (z := 206) (as := [.ref 65, .int 0, .int x]) (rest := []) (v := some (.int (((x + N) * 3) * 2))) (h1 := kv_wd (kx_mx g c [11, 20, 10]) w) rfl (by exact ev_ti_4_0 (d := d + 0) (g := g) N M V c hs hV (by omega) x) ?_
  refine kx_st 0 (pc' := 81) (L' := [some (.ref 65), some (.int 1), some (.int x), none]) (st' := [.int (((x + N) * 3) * 2)]) (h' := kv_wd (kx_mx g c [11, 20, 10]) w) rfl ?_
  refine kx_ret (v := some (.int (((x + N) * 3) * 2))) rfl ?_
  exact ⟨rfl, rfl⟩
set_option maxRecDepth 100000 in
theorem ev_ti_4_4 {E : kv_V} {d : Nat} {g : kv_S} {w : kv_W} (N M V : Int32) (c : Nat) (hs : kx_MS g c N M V) (hV : V = 4) (h40 : c + 3 ≤ 40) (x : Int32) : kv_ev E (d + 7) 206 [.ref 65, .int 4, .int x] (kv_wd g w) (some (.int (((x + N) * 3) * 2))) (kv_wd (kx_mx g c [11, 20, 10]) w) := by
  refine kx_ev (d := d + 6) (by decide) (Nat.le_of_ble_eq_true rfl) ?_
  refine kx_st 0 (pc' := 0) (L' := [some (.ref 65), some (.int 4), some (.int x), none]) (st' := []) (h' := kv_wd g w) rfl ?_
  refine kx_st 1 (pc' := 1) (L' := [some (.ref 65), some (.int 4), some (.int x), none]) (st' := [.int 4]) (h' := kv_wd g w) rfl ?_
  refine kx_st 1 (pc' := 22) (L' := [some (.ref 65), some (.int 4), some (.int x), none]) (st' := []) (h' := kv_wd g w) rfl ?_
  refine kx_st 2 (pc' := 24) (L' := [some (.ref 65), some (.int 4), some (.int x), none]) (st' := [.int 2, .int 4]) (h' := kv_wd g w) rfl ?_
  refine kx_st 1 (pc' := 52) (L' := [some (.ref 65), some (.int 4), some (.int x), none]) (st' := []) (h' := kv_wd g w) rfl ?_
  refine kx_st 2 (pc' := 54) (L' := [some (.ref 65), some (.int 4), some (.int x), none]) (st' := [.int 5, .int 4]) (h' := kv_wd g w) rfl ?_
  refine kx_st 1 (pc' := 72) (L' := [some (.ref 65), some (.int 4), some (.int x), none]) (st' := []) (h' := kv_wd g w) rfl ?_
  refine kx_st 2 (pc' := 74) (L' := [some (.ref 65), some (.int 4), some (.int x), none]) (st' := [.int 4, .ref 65]) (h' := kv_wd g w) rfl ?_
  refine kx_call (z := 153) (as := [.int 4]) (rest := [.ref 65]) (v := some (.int 1)) (h1 := kv_wd g w) rfl (ev_mabove_4 (d := d + 5)) ?_
  refine kx_st 0 (pc' := 77) (L' := [some (.ref 65), some (.int 4), some (.int x), none]) (st' := [.int 1, .ref 65]) (h' := kv_wd g w) rfl ?_
  refine kx_st 1 (pc' := 78) (L' := [some (.ref 65), some (.int 4), some (.int x), none]) (st' := [.int x, .int 1, .ref 65]) (h' := kv_wd g w) rfl ?_
  refine kx_call (z := 206) (as := [.ref 65, .int 1, .int x]) (rest := []) (v := some (.int (((x + N) * 3) * 2))) (h1 := kv_wd (kx_mx g c [11, 20, 10]) w) rfl (by exact ev_ti_4_1 (d := d + 0) (g := g) N M V c hs hV (by omega) x) ?_
  refine kx_st 0 (pc' := 81) (L' := [some (.ref 65), some (.int 4), some (.int x), none]) (st' := [.int (((x + N) * 3) * 2)]) (h' := kv_wd (kx_mx g c [11, 20, 10]) w) rfl ?_
  refine kx_ret (v := some (.int (((x + N) * 3) * 2))) rfl ?_
  exact ⟨rfl, rfl⟩
set_option maxRecDepth 100000 in
theorem ev_sl_4 {E : kv_V} {d : Nat} {g : kv_S} {w : kv_W} (N M V : Int32) (c : Nat) (hs : kx_MS g c N M V) (h40 : c + 1 ≤ 40) (x : Int32) : kv_ev E (d + 4) 205 [.ref 65, .int 4, .int x] (kv_wd g w) (some (.int (x - M))) (kv_wd (kx_mx g c [12]) w) := by
  refine kx_ev (d := d + 3) (by decide) (Nat.le_of_ble_eq_true rfl) ?_
  refine kx_st 0 (pc' := 0) (L' := [some (.ref 65), some (.int 4), some (.int x)]) (st' := []) (h' := kv_wd g w) rfl ?_
  refine kx_st 1 (pc' := 1) (L' := [some (.ref 65), some (.int 4), some (.int x)]) (st' := [.int 4]) (h' := kv_wd g w) rfl ?_
  refine kx_st 1 (pc' := 17) (L' := [some (.ref 65), some (.int 4), some (.int x)]) (st' := []) (h' := kv_wd g w) rfl ?_
  refine kx_st 2 (pc' := 19) (L' := [some (.ref 65), some (.int 4), some (.int x)]) (st' := [.int 3, .int 4]) (h' := kv_wd g w) rfl ?_
  refine kx_st 1 (pc' := 36) (L' := [some (.ref 65), some (.int 4), some (.int x)]) (st' := []) (h' := kv_wd g w) rfl ?_
  refine kx_st 2 (pc' := 39) (L' := [some (.ref 65), some (.int 4), some (.int x)]) (st' := [.int 6, .int 4]) (h' := kv_wd g w) rfl ?_
  refine kx_st 1 (pc' := 60) (L' := [some (.ref 65), some (.int 4), some (.int x)]) (st' := []) (h' := kv_wd g w) rfl ?_
  refine kx_st 2 (pc' := 62) (L' := [some (.ref 65), some (.int 4), some (.int x)]) (st' := [.int 4, .ref 65]) (h' := kv_wd g w) rfl ?_
  refine kx_call (z := 153) (as := [.int 4]) (rest := [.ref 65]) (v := some (.int 1)) (h1 := kv_wd g w) rfl (ev_mabove_4 (d := d + 2)) ?_
  refine kx_st 0 (pc' := 65) (L' := [some (.ref 65), some (.int 4), some (.int x)]) (st' := [.int 1, .ref 65]) (h' := kv_wd g w) rfl ?_
  refine kx_st 1 (pc' := 66) (L' := [some (.ref 65), some (.int 4), some (.int x)]) (st' := [.int x, .int 1, .ref 65]) (h' := kv_wd g w) rfl ?_
  refine kx_call (z := 205) (as := [.ref 65, .int 1, .int x]) (rest := []) (v := some (.int (x - M))) (h1 := kv_wd (kx_mx g c [12]) w) rfl (by exact ev_sl_1 (d := d + 0) (g := g) N M V c hs (by omega) x) ?_
  refine kx_st 0 (pc' := 69) (L' := [some (.ref 65), some (.int 4), some (.int x)]) (st' := [.int (x - M)]) (h' := kv_wd (kx_mx g c [12]) w) rfl ?_
  refine kx_ret (v := some (.int (x - M))) rfl ?_
  exact ⟨rfl, rfl⟩
set_option maxRecDepth 100000 in
theorem ev_te_4_0 {E : kv_V} {d : Nat} {g : kv_S} {w : kv_W} (N M V : Int32) (c : Nat) (hs : kx_MS g c N M V) (hV : V = 4) (h40 : c + 5 ≤ 40) (x : Int32) : kv_ev E (d + 8) 207 [.ref 65, .int 0, .int x] (kv_wd g w) (some (.int ((((x + N) * 3) * 2) ^^^ (x - M)))) (kv_wd (kx_mx g c [13, 11, 20, 10, 12]) w) := by
  refine kx_ev (d := d + 7) (by decide) (Nat.le_of_ble_eq_true rfl) ?_
  refine kx_st 0 (pc' := 0) (L' := [some (.ref 65), some (.int 0), some (.int x), none]) (st' := []) (h' := kv_wd g w) rfl ?_
  refine kx_st 1 (pc' := 1) (L' := [some (.ref 65), some (.int 0), some (.int x), none]) (st' := [.int 0]) (h' := kv_wd g w) rfl ?_
  refine kx_st 1 (pc' := 4) (L' := [some (.ref 65), some (.int 0), some (.int x), none]) (st' := []) (h' := kv_wd g w) rfl ?_
  refine kx_st 2 (pc' := 7) (L' := [some (.ref 65), some (.int 0), some (.int x), none]) (st' := [.int 13, .ref 65]) (h' := kv_wd g w) rfl ?_
  refine kx_call (z := 203) (as := [.ref 65, .int 13]) (rest := []) (v := none) (h1 := kv_wd (kx_mx g c [13]) w) rfl (ev_ran (d := d + 6) c hs.1 (by omega) 13) ?_
  refine kx_st 0 (pc' := 10) (L' := [some (.ref 65), some (.int 0), some (.int x), none]) (st' := []) (h' := kv_wd (kx_mx g c [13]) w) rfl ?_
  refine kx_st 4 (pc' := 16) (L' := [some (.ref 65), some (.int 0), some (.int x), none]) (st' := [.int x, .int ((kx_mx g c [13]) 65 21), .ref 65]) (h' := kv_wd (kx_mx g c [13]) w) rfl ?_
  refine kx_call (z := 206) (as := [.ref 65, .int ((kx_mx g c [13]) 65 21), .int x]) (rest := []) (v := some (.int (((x + N) * 3) * 2))) (h1 := kv_wd (kx_mx g c [13, 11, 20, 10]) w) rfl (by rw [← show kx_mx (kx_mx g c [13]) (c + 1) [11, 20, 10] = kx_mx g c [13, 11, 20, 10] from kx_mx_app g c [13] [11, 20, 10]]; rw [show (kx_mx g c [13]) 65 21 = 4 from (kx_MS_mx [13] hs).2.1.trans hV]; exact ev_ti_4_4 (d := d + 0) (g := kx_mx g c [13]) N M V (c + 1) (kx_MS_mx [13] hs) hV (by omega) x) ?_
  refine kx_st 0 (pc' := 19) (L' := [some (.ref 65), some (.int 0), some (.int x), none]) (st' := [.int (((x + N) * 3) * 2)]) (h' := kv_wd (kx_mx g c [13, 11, 20, 10]) w) rfl ?_
  refine kx_st 6 (pc' := 27) (L' := [some (.ref 65), some (.int 0), some (.int x), some (.int (((x + N) * 3) * 2))]) (st' := [.int x, .int ((kx_mx g c [13, 11, 20, 10]) 65 21), .ref 65, .int (((x + N) * 3) * 2)]) (h' := kv_wd (kx_mx g c [13, 11, 20, 10]) w) rfl ?_
  refine kx_call (z := 205) (as := [.ref 65, .int ((kx_mx g c [13, 11, 20, 10]) 65 21), .int x]) (rest := [.int (((x + N) * 3) * 2)]) (v := some (.int (x - M))) (h1 := kv_wd (kx_mx g c [13, 11, 20, 10, 12]) w) rfl (by rw [← show kx_mx (kx_mx g c [13, 11, 20, 10]) (c + 4) [12] = kx_mx g c [13, 11, 20, 10, 12] from kx_mx_app g c [13, 11, 20, 10] [12]]; rw [show (kx_mx g c [13, 11, 20, 10]) 65 21 = 4 from (kx_MS_mx [13, 11, 20, 10] hs).2.1.trans hV]; exact ev_sl_4 (d := d + 3) (g := kx_mx g c [13, 11, 20, 10]) N M V (c + 4) (kx_MS_mx [13, 11, 20, 10] hs) (by omega) x) ?_
  refine kx_st 0 (pc' := 30) (L' := [some (.ref 65), some (.int 0), some (.int x), some (.int (((x + N) * 3) * 2))]) (st' := [.int (x - M), .int (((x + N) * 3) * 2)]) (h' := kv_wd (kx_mx g c [13, 11, 20, 10, 12]) w) rfl ?_
  refine kx_st 1 (pc' := 31) (L' := [some (.ref 65), some (.int 0), some (.int x), some (.int (((x + N) * 3) * 2))]) (st' := [.int ((((x + N) * 3) * 2) ^^^ (x - M))]) (h' := kv_wd (kx_mx g c [13, 11, 20, 10, 12]) w) rfl ?_
  refine kx_ret (v := some (.int ((((x + N) * 3) * 2) ^^^ (x - M)))) rfl ?_
  exact ⟨rfl, rfl⟩
set_option maxRecDepth 100000 in
theorem ev_te_4_1 {E : kv_V} {d : Nat} {g : kv_S} {w : kv_W} (N M V : Int32) (c : Nat) (hs : kx_MS g c N M V) (hV : V = 4) (h40 : c + 5 ≤ 40) (x : Int32) : kv_ev E (d + 9) 207 [.ref 65, .int 1, .int x] (kv_wd g w) (some (.int ((((x + N) * 3) * 2) ^^^ (x - M)))) (kv_wd (kx_mx g c [13, 11, 20, 10, 12]) w) := by
  refine kx_ev (d := d + 8) (by decide) (Nat.le_of_ble_eq_true rfl) ?_
  refine kx_st 0 (pc' := 0) (L' := [some (.ref 65), some (.int 1), some (.int x), none]) (st' := []) (h' := kv_wd g w) rfl ?_
  refine kx_st 1 (pc' := 1) (L' := [some (.ref 65), some (.int 1), some (.int x), none]) (st' := [.int 1]) (h' := kv_wd g w) rfl ?_
  refine kx_st 1 (pc' := 32) (L' := [some (.ref 65), some (.int 1), some (.int x), none]) (st' := []) (h' := kv_wd g w) rfl ?_
  refine kx_st 2 (pc' := 34) (L' := [some (.ref 65), some (.int 1), some (.int x), none]) (st' := [.int 4, .int 1]) (h' := kv_wd g w) rfl ?_
  refine kx_st 1 (pc' := 62) (L' := [some (.ref 65), some (.int 1), some (.int x), none]) (st' := []) (h' := kv_wd g w) rfl ?_
  refine kx_st 2 (pc' := 65) (L' := [some (.ref 65), some (.int 1), some (.int x), none]) (st' := [.int 6, .int 1]) (h' := kv_wd g w) rfl ?_
  refine kx_st 1 (pc' := 93) (L' := [some (.ref 65), some (.int 1), some (.int x), none]) (st' := []) (h' := kv_wd g w) rfl ?_
  refine kx_st 2 (pc' := 95) (L' := [some (.ref 65), some (.int 1), some (.int x), none]) (st' := [.int 1, .ref 65]) (h' := kv_wd g w) rfl ?_
  refine kx_call (z := 153) (as := [.int 1]) (rest := [.ref 65]) (v := some (.int 0)) (h1 := kv_wd g w) rfl (ev_mabove_1 (d := d + 7)) ?_
  refine kx_st 0 (pc' := 98) (L' := [some (.ref 65), some (.int 1), some (.int x), none]) (st' := [.int 0, .ref 65]) (h' := kv_wd g w) rfl ?_
  refine kx_st 1 (pc' := 99) (L' := [some (.ref 65), some (.int 1), some (.int x), none]) (st' := [.int x, .int 0, .ref 65]) (h' := kv_wd g w) rfl ?_
  refine kx_call (z := 207) (as := [.ref 65, .int 0, .int x]) (rest := []) (v := some (.int ((((x + N) * 3) * 2) ^^^ (x - M)))) (h1 := kv_wd (kx_mx g c [13, 11, 20, 10, 12]) w) rfl (by exact ev_te_4_0 (d := d + 0) (g := g) N M V c hs hV (by omega) x) ?_
  refine kx_st 0 (pc' := 102) (L' := [some (.ref 65), some (.int 1), some (.int x), none]) (st' := [.int ((((x + N) * 3) * 2) ^^^ (x - M))]) (h' := kv_wd (kx_mx g c [13, 11, 20, 10, 12]) w) rfl ?_
  refine kx_ret (v := some (.int ((((x + N) * 3) * 2) ^^^ (x - M)))) rfl ?_
  exact ⟨rfl, rfl⟩
set_option maxRecDepth 100000 in
theorem ev_te_4_4 {E : kv_V} {d : Nat} {g : kv_S} {w : kv_W} (N M V : Int32) (c : Nat) (hs : kx_MS g c N M V) (hV : V = 4) (h40 : c + 8 ≤ 40) (x : Int32) : kv_ev E (d + 10) 207 [.ref 65, .int 4, .int x] (kv_wd g w) (some (.int (((((x + N) * 3) * 2) ^^^ (x - M)) - ((2 + N) * 3)))) (kv_wd (kx_mx g c [50, 13, 11, 20, 10, 12, 20, 10]) w) := by
  refine kx_ev (d := d + 9) (by decide) (Nat.le_of_ble_eq_true rfl) ?_
  refine kx_st 0 (pc' := 0) (L' := [some (.ref 65), some (.int 4), some (.int x), none]) (st' := []) (h' := kv_wd g w) rfl ?_
  refine kx_st 1 (pc' := 1) (L' := [some (.ref 65), some (.int 4), some (.int x), none]) (st' := [.int 4]) (h' := kv_wd g w) rfl ?_
  refine kx_st 1 (pc' := 32) (L' := [some (.ref 65), some (.int 4), some (.int x), none]) (st' := []) (h' := kv_wd g w) rfl ?_
  refine kx_st 2 (pc' := 34) (L' := [some (.ref 65), some (.int 4), some (.int x), none]) (st' := [.int 4, .int 4]) (h' := kv_wd g w) rfl ?_
  refine kx_st 1 (pc' := 37) (L' := [some (.ref 65), some (.int 4), some (.int x), none]) (st' := []) (h' := kv_wd g w) rfl ?_
  refine kx_st 2 (pc' := 40) (L' := [some (.ref 65), some (.int 4), some (.int x), none]) (st' := [.int 50, .ref 65]) (h' := kv_wd g w) rfl ?_
  refine kx_call (z := 203) (as := [.ref 65, .int 50]) (rest := []) (v := none) (h1 := kv_wd (kx_mx g c [50]) w) rfl (ev_ran (d := d + 8) c hs.1 (by omega) 50) ?_
  refine kx_st 0 (pc' := 43) (L' := [some (.ref 65), some (.int 4), some (.int x), none]) (st' := []) (h' := kv_wd (kx_mx g c [50]) w) rfl ?_
  refine kx_st 3 (pc' := 46) (L' := [some (.ref 65), some (.int 4), some (.int x), none]) (st' := [.int x, .int 1, .ref 65]) (h' := kv_wd (kx_mx g c [50]) w) rfl ?_
  refine kx_call (z := 207) (as := [.ref 65, .int 1, .int x]) (rest := []) (v := some (.int ((((x + N) * 3) * 2) ^^^ (x - M)))) (h1 := kv_wd (kx_mx g c [50, 13, 11, 20, 10, 12]) w) rfl (by rw [← show kx_mx (kx_mx g c [50]) (c + 1) [13, 11, 20, 10, 12] = kx_mx g c [50, 13, 11, 20, 10, 12] from kx_mx_app g c [50] [13, 11, 20, 10, 12]]; exact ev_te_4_1 (d := d + 0) (g := kx_mx g c [50]) N M V (c + 1) (kx_MS_mx [50] hs) hV (by omega) x) ?_
  refine kx_st 0 (pc' := 49) (L' := [some (.ref 65), some (.int 4), some (.int x), none]) (st' := [.int ((((x + N) * 3) * 2) ^^^ (x - M))]) (h' := kv_wd (kx_mx g c [50, 13, 11, 20, 10, 12]) w) rfl ?_
  refine kx_st 6 (pc' := 57) (L' := [some (.ref 65), some (.int 4), some (.int x), some (.int ((((x + N) * 3) * 2) ^^^ (x - M)))]) (st' := [.int 2, .int ((kx_mx g c [50, 13, 11, 20, 10, 12]) 65 21), .ref 65, .int ((((x + N) * 3) * 2) ^^^ (x - M))]) (h' := kv_wd (kx_mx g c [50, 13, 11, 20, 10, 12]) w) rfl ?_
  refine kx_call (z := 204) (as := [.ref 65, .int ((kx_mx g c [50, 13, 11, 20, 10, 12]) 65 21), .int 2]) (rest := [.int ((((x + N) * 3) * 2) ^^^ (x - M))]) (v := some (.int ((2 + N) * 3))) (h1 := kv_wd (kx_mx g c [50, 13, 11, 20, 10, 12, 20, 10]) w) rfl (by rw [← show kx_mx (kx_mx g c [50, 13, 11, 20, 10, 12]) (c + 6) [20, 10] = kx_mx g c [50, 13, 11, 20, 10, 12, 20, 10] from kx_mx_app g c [50, 13, 11, 20, 10, 12] [20, 10]]; rw [show (kx_mx g c [50, 13, 11, 20, 10, 12]) 65 21 = 4 from (kx_MS_mx [50, 13, 11, 20, 10, 12] hs).2.1.trans hV]; exact ev_bi_4 (d := d + 5) (g := kx_mx g c [50, 13, 11, 20, 10, 12]) N M V (c + 6) (kx_MS_mx [50, 13, 11, 20, 10, 12] hs) (by omega) 2) ?_
  refine kx_st 0 (pc' := 60) (L' := [some (.ref 65), some (.int 4), some (.int x), some (.int ((((x + N) * 3) * 2) ^^^ (x - M)))]) (st' := [.int ((2 + N) * 3), .int ((((x + N) * 3) * 2) ^^^ (x - M))]) (h' := kv_wd (kx_mx g c [50, 13, 11, 20, 10, 12, 20, 10]) w) rfl ?_
  refine kx_st 1 (pc' := 61) (L' := [some (.ref 65), some (.int 4), some (.int x), some (.int ((((x + N) * 3) * 2) ^^^ (x - M)))]) (st' := [.int (((((x + N) * 3) * 2) ^^^ (x - M)) - ((2 + N) * 3))]) (h' := kv_wd (kx_mx g c [50, 13, 11, 20, 10, 12, 20, 10]) w) rfl ?_
  refine kx_ret (v := some (.int (((((x + N) * 3) * 2) ^^^ (x - M)) - ((2 + N) * 3)))) rfl ?_
  exact ⟨rfl, rfl⟩
set_option maxRecDepth 100000 in
theorem ev_bi_5 {E : kv_V} {d : Nat} {g : kv_S} {w : kv_W} (N M V : Int32) (c : Nat) (hs : kx_MS g c N M V) (h40 : c + 1 ≤ 40) (x : Int32) : kv_ev E (d + 4) 204 [.ref 65, .int 5, .int x] (kv_wd g w) (some (.int (x + N))) (kv_wd (kx_mx g c [10]) w) := by
  refine kx_ev (d := d + 3) (by decide) (Nat.le_of_ble_eq_true rfl) ?_
  refine kx_st 0 (pc' := 0) (L' := [some (.ref 65), some (.int 5), some (.int x)]) (st' := []) (h' := kv_wd g w) rfl ?_
  refine kx_st 1 (pc' := 1) (L' := [some (.ref 65), some (.int 5), some (.int x)]) (st' := [.int 5]) (h' := kv_wd g w) rfl ?_
  refine kx_st 1 (pc' := 17) (L' := [some (.ref 65), some (.int 5), some (.int x)]) (st' := []) (h' := kv_wd g w) rfl ?_
  refine kx_st 2 (pc' := 19) (L' := [some (.ref 65), some (.int 5), some (.int x)]) (st' := [.int 1, .int 5]) (h' := kv_wd g w) rfl ?_
  refine kx_st 1 (pc' := 37) (L' := [some (.ref 65), some (.int 5), some (.int x)]) (st' := []) (h' := kv_wd g w) rfl ?_
  refine kx_st 2 (pc' := 39) (L' := [some (.ref 65), some (.int 5), some (.int x)]) (st' := [.int 5, .ref 65]) (h' := kv_wd g w) rfl ?_
  refine kx_call (z := 153) (as := [.int 5]) (rest := [.ref 65]) (v := some (.int 2)) (h1 := kv_wd g w) rfl (ev_mabove_5 (d := d + 2)) ?_
  refine kx_st 0 (pc' := 42) (L' := [some (.ref 65), some (.int 5), some (.int x)]) (st' := [.int 2, .ref 65]) (h' := kv_wd g w) rfl ?_
  refine kx_st 1 (pc' := 43) (L' := [some (.ref 65), some (.int 5), some (.int x)]) (st' := [.int x, .int 2, .ref 65]) (h' := kv_wd g w) rfl ?_
  refine kx_call (z := 204) (as := [.ref 65, .int 2, .int x]) (rest := []) (v := some (.int (x + N))) (h1 := kv_wd (kx_mx g c [10]) w) rfl (by exact ev_bi_2 (d := d + 0) (g := g) N M V c hs (by omega) x) ?_
  refine kx_st 0 (pc' := 46) (L' := [some (.ref 65), some (.int 5), some (.int x)]) (st' := [.int (x + N)]) (h' := kv_wd (kx_mx g c [10]) w) rfl ?_
  refine kx_ret (v := some (.int (x + N))) rfl ?_
  exact ⟨rfl, rfl⟩
set_option maxRecDepth 100000 in
theorem ev_ti_5_0 {E : kv_V} {d : Nat} {g : kv_S} {w : kv_W} (N M V : Int32) (c : Nat) (hs : kx_MS g c N M V) (hV : V = 5) (h40 : c + 2 ≤ 40) (x : Int32) : kv_ev E (d + 5) 206 [.ref 65, .int 0, .int x] (kv_wd g w) (some (.int ((x + N) * 2))) (kv_wd (kx_mx g c [11, 10]) w) := by
  refine kx_ev (d := d + 4) (by decide) (Nat.le_of_ble_eq_true rfl) ?_
  refine kx_st 0 (pc' := 0) (L' := [some (.ref 65), some (.int 0), some (.int x), none]) (st' := []) (h' := kv_wd g w) rfl ?_
  refine kx_st 1 (pc' := 1) (L' := [some (.ref 65), some (.int 0), some (.int x), none]) (st' := [.int 0]) (h' := kv_wd g w) rfl ?_
  refine kx_st 1 (pc' := 4) (L' := [some (.ref 65), some (.int 0), some (.int x), none]) (st' := []) (h' := kv_wd g w) rfl ?_
  refine kx_st 2 (pc' := 7) (L' := [some (.ref 65), some (.int 0), some (.int x), none]) (st' := [.int 11, .ref 65]) (h' := kv_wd g w) rfl ?_
  refine kx_call (z := 203) (as := [.ref 65, .int 11]) (rest := []) (v := none) (h1 := kv_wd (kx_mx g c [11]) w) rfl (ev_ran (d := d + 3) c hs.1 (by omega) 11) ?_
  refine kx_st 0 (pc' := 10) (L' := [some (.ref 65), some (.int 0), some (.int x), none]) (st' := []) (h' := kv_wd (kx_mx g c [11]) w) rfl ?_
  refine kx_st 4 (pc' := 16) (L' := [some (.ref 65), some (.int 0), some (.int x), none]) (st' := [.int x, .int ((kx_mx g c [11]) 65 21), .ref 65]) (h' := kv_wd (kx_mx g c [11]) w) rfl ?_
  refine kx_call (z := 204) (as := [.ref 65, .int ((kx_mx g c [11]) 65 21), .int x]) (rest := []) (v := some (.int (x + N))) (h1 := kv_wd (kx_mx g c [11, 10]) w) rfl (by rw [← show kx_mx (kx_mx g c [11]) (c + 1) [10] = kx_mx g c [11, 10] from kx_mx_app g c [11] [10]]; rw [show (kx_mx g c [11]) 65 21 = 5 from (kx_MS_mx [11] hs).2.1.trans hV]; exact ev_bi_5 (d := d + 0) (g := kx_mx g c [11]) N M V (c + 1) (kx_MS_mx [11] hs) (by omega) x) ?_
  refine kx_st 0 (pc' := 19) (L' := [some (.ref 65), some (.int 0), some (.int x), none]) (st' := [.int (x + N)]) (h' := kv_wd (kx_mx g c [11, 10]) w) rfl ?_
  refine kx_st 2 (pc' := 21) (L' := [some (.ref 65), some (.int 0), some (.int x), none]) (st' := [.int ((x + N) * 2)]) (h' := kv_wd (kx_mx g c [11, 10]) w) rfl ?_
  refine kx_ret (v := some (.int ((x + N) * 2))) rfl ?_
  exact ⟨rfl, rfl⟩
set_option maxRecDepth 100000 in
theorem ev_sl_5 {E : kv_V} {d : Nat} {g : kv_S} {w : kv_W} (N M V : Int32) (c : Nat) (hs : kx_MS g c N M V) (h40 : c + 1 ≤ 40) (x : Int32) : kv_ev E (d + 4) 205 [.ref 65, .int 5, .int x] (kv_wd g w) (some (.int (x - M))) (kv_wd (kx_mx g c [12]) w) := by
  refine kx_ev (d := d + 3) (by decide) (Nat.le_of_ble_eq_true rfl) ?_
  refine kx_st 0 (pc' := 0) (L' := [some (.ref 65), some (.int 5), some (.int x)]) (st' := []) (h' := kv_wd g w) rfl ?_
  refine kx_st 1 (pc' := 1) (L' := [some (.ref 65), some (.int 5), some (.int x)]) (st' := [.int 5]) (h' := kv_wd g w) rfl ?_
  refine kx_st 1 (pc' := 17) (L' := [some (.ref 65), some (.int 5), some (.int x)]) (st' := []) (h' := kv_wd g w) rfl ?_
  refine kx_st 2 (pc' := 19) (L' := [some (.ref 65), some (.int 5), some (.int x)]) (st' := [.int 3, .int 5]) (h' := kv_wd g w) rfl ?_
  refine kx_st 1 (pc' := 36) (L' := [some (.ref 65), some (.int 5), some (.int x)]) (st' := []) (h' := kv_wd g w) rfl ?_
  refine kx_st 2 (pc' := 39) (L' := [some (.ref 65), some (.int 5), some (.int x)]) (st' := [.int 6, .int 5]) (h' := kv_wd g w) rfl ?_
  refine kx_st 1 (pc' := 60) (L' := [some (.ref 65), some (.int 5), some (.int x)]) (st' := []) (h' := kv_wd g w) rfl ?_
  refine kx_st 2 (pc' := 62) (L' := [some (.ref 65), some (.int 5), some (.int x)]) (st' := [.int 5, .ref 65]) (h' := kv_wd g w) rfl ?_
  refine kx_call (z := 153) (as := [.int 5]) (rest := [.ref 65]) (v := some (.int 2)) (h1 := kv_wd g w) rfl (ev_mabove_5 (d := d + 2)) ?_
  refine kx_st 0 (pc' := 65) (L' := [some (.ref 65), some (.int 5), some (.int x)]) (st' := [.int 2, .ref 65]) (h' := kv_wd g w) rfl ?_
  refine kx_st 1 (pc' := 66) (L' := [some (.ref 65), some (.int 5), some (.int x)]) (st' := [.int x, .int 2, .ref 65]) (h' := kv_wd g w) rfl ?_
  refine kx_call (z := 205) (as := [.ref 65, .int 2, .int x]) (rest := []) (v := some (.int (x - M))) (h1 := kv_wd (kx_mx g c [12]) w) rfl (by exact ev_sl_2 (d := d + 0) (g := g) N M V c hs (by omega) x) ?_
  refine kx_st 0 (pc' := 69) (L' := [some (.ref 65), some (.int 5), some (.int x)]) (st' := [.int (x - M)]) (h' := kv_wd (kx_mx g c [12]) w) rfl ?_
  refine kx_ret (v := some (.int (x - M))) rfl ?_
  exact ⟨rfl, rfl⟩
set_option maxRecDepth 100000 in
theorem ev_ti_5_2 {E : kv_V} {d : Nat} {g : kv_S} {w : kv_W} (N M V : Int32) (c : Nat) (hs : kx_MS g c N M V) (hV : V = 5) (h40 : c + 4 ≤ 40) (x : Int32) : kv_ev E (d + 6) 206 [.ref 65, .int 2, .int x] (kv_wd g w) (some (.int (((x + N) * 2) - (1 - M)))) (kv_wd (kx_mx g c [30, 11, 10, 12]) w) := by
  refine kx_ev (d := d + 5) (by decide) (Nat.le_of_ble_eq_true rfl) ?_
  refine kx_st 0 (pc' := 0) (L' := [some (.ref 65), some (.int 2), some (.int x), none]) (st' := []) (h' := kv_wd g w) rfl ?_
  refine kx_st 1 (pc' := 1) (L' := [some (.ref 65), some (.int 2), some (.int x), none]) (st' := [.int 2]) (h' := kv_wd g w) rfl ?_
  refine kx_st 1 (pc' := 22) (L' := [some (.ref 65), some (.int 2), some (.int x), none]) (st' := []) (h' := kv_wd g w) rfl ?_
  refine kx_st 2 (pc' := 24) (L' := [some (.ref 65), some (.int 2), some (.int x), none]) (st' := [.int 2, .int 2]) (h' := kv_wd g w) rfl ?_
  refine kx_st 1 (pc' := 27) (L' := [some (.ref 65), some (.int 2), some (.int x), none]) (st' := []) (h' := kv_wd g w) rfl ?_
  refine kx_st 2 (pc' := 30) (L' := [some (.ref 65), some (.int 2), some (.int x), none]) (st' := [.int 30, .ref 65]) (h' := kv_wd g w) rfl ?_
  refine kx_call (z := 203) (as := [.ref 65, .int 30]) (rest := []) (v := none) (h1 := kv_wd (kx_mx g c [30]) w) rfl (ev_ran (d := d + 4) c hs.1 (by omega) 30) ?_
  refine kx_st 0 (pc' := 33) (L' := [some (.ref 65), some (.int 2), some (.int x), none]) (st' := []) (h' := kv_wd (kx_mx g c [30]) w) rfl ?_
  refine kx_st 3 (pc' := 36) (L' := [some (.ref 65), some (.int 2), some (.int x), none]) (st' := [.int x, .int 0, .ref 65]) (h' := kv_wd (kx_mx g c [30]) w) rfl ?_
  refine kx_call (z := 206) (as := [.ref 65, .int 0, .int x]) (rest := []) (v := some (.int ((x + N) * 2))) (h1 := kv_wd (kx_mx g c [30, 11, 10]) w) rfl (by rw [← show kx_mx (kx_mx g c [30]) (c + 1) [11, 10] = kx_mx g c [30, 11, 10] from kx_mx_app g c [30] [11, 10]]; exact ev_ti_5_0 (d := d + 0) (g := kx_mx g c [30]) N M V (c + 1) (kx_MS_mx [30] hs) hV (by omega) x) ?_
  refine kx_st 0 (pc' := 39) (L' := [some (.ref 65), some (.int 2), some (.int x), none]) (st' := [.int ((x + N) * 2)]) (h' := kv_wd (kx_mx g c [30, 11, 10]) w) rfl ?_
  refine kx_st 6 (pc' := 47) (L' := [some (.ref 65), some (.int 2), some (.int x), some (.int ((x + N) * 2))]) (st' := [.int 1, .int ((kx_mx g c [30, 11, 10]) 65 21), .ref 65, .int ((x + N) * 2)]) (h' := kv_wd (kx_mx g c [30, 11, 10]) w) rfl ?_
  refine kx_call (z := 205) (as := [.ref 65, .int ((kx_mx g c [30, 11, 10]) 65 21), .int 1]) (rest := [.int ((x + N) * 2)]) (v := some (.int (1 - M))) (h1 := kv_wd (kx_mx g c [30, 11, 10, 12]) w) rfl (by rw [← show kx_mx (kx_mx g c [30, 11, 10]) (c + 3) [12] = kx_mx g c [30, 11, 10, 12] from kx_mx_app g c [30, 11, 10] [12]]; rw [show (kx_mx g c [30, 11, 10]) 65 21 = 5 from (kx_MS_mx [30, 11, 10] hs).2.1.trans hV]; exact ev_sl_5 (d := d + 1) (g := kx_mx g c [30, 11, 10]) N M V (c + 3) (kx_MS_mx [30, 11, 10] hs) (by omega) 1) ?_
  refine kx_st 0 (pc' := 50) (L' := [some (.ref 65), some (.int 2), some (.int x), some (.int ((x + N) * 2))]) (st' := [.int (1 - M), .int ((x + N) * 2)]) (h' := kv_wd (kx_mx g c [30, 11, 10, 12]) w) rfl ?_
  refine kx_st 1 (pc' := 51) (L' := [some (.ref 65), some (.int 2), some (.int x), some (.int ((x + N) * 2))]) (st' := [.int (((x + N) * 2) - (1 - M))]) (h' := kv_wd (kx_mx g c [30, 11, 10, 12]) w) rfl ?_
  refine kx_ret (v := some (.int (((x + N) * 2) - (1 - M)))) rfl ?_
  exact ⟨rfl, rfl⟩
set_option maxRecDepth 100000 in
theorem ev_ti_5_5 {E : kv_V} {d : Nat} {g : kv_S} {w : kv_W} (N M V : Int32) (c : Nat) (hs : kx_MS g c N M V) (hV : V = 5) (h40 : c + 5 ≤ 40) (x : Int32) : kv_ev E (d + 7) 206 [.ref 65, .int 5, .int x] (kv_wd g w) (some (.int ((((x + 1) + N) * 2) - (1 - M)))) (kv_wd (kx_mx g c [60, 30, 11, 10, 12]) w) := by
  refine kx_ev (d := d + 6) (by decide) (Nat.le_of_ble_eq_true rfl) ?_
  refine kx_st 0 (pc' := 0) (L' := [some (.ref 65), some (.int 5), some (.int x), none]) (st' := []) (h' := kv_wd g w) rfl ?_
  refine kx_st 1 (pc' := 1) (L' := [some (.ref 65), some (.int 5), some (.int x), none]) (st' := [.int 5]) (h' := kv_wd g w) rfl ?_
  refine kx_st 1 (pc' := 22) (L' := [some (.ref 65), some (.int 5), some (.int x), none]) (st' := []) (h' := kv_wd g w) rfl ?_
  refine kx_st 2 (pc' := 24) (L' := [some (.ref 65), some (.int 5), some (.int x), none]) (st' := [.int 2, .int 5]) (h' := kv_wd g w) rfl ?_
  refine kx_st 1 (pc' := 52) (L' := [some (.ref 65), some (.int 5), some (.int x), none]) (st' := []) (h' := kv_wd g w) rfl ?_
  refine kx_st 2 (pc' := 54) (L' := [some (.ref 65), some (.int 5), some (.int x), none]) (st' := [.int 5, .int 5]) (h' := kv_wd g w) rfl ?_
  refine kx_st 1 (pc' := 57) (L' := [some (.ref 65), some (.int 5), some (.int x), none]) (st' := []) (h' := kv_wd g w) rfl ?_
  refine kx_st 2 (pc' := 60) (L' := [some (.ref 65), some (.int 5), some (.int x), none]) (st' := [.int 60, .ref 65]) (h' := kv_wd g w) rfl ?_
  refine kx_call (z := 203) (as := [.ref 65, .int 60]) (rest := []) (v := none) (h1 := kv_wd (kx_mx g c [60]) w) rfl (ev_ran (d := d + 5) c hs.1 (by omega) 60) ?_
  refine kx_st 0 (pc' := 63) (L' := [some (.ref 65), some (.int 5), some (.int x), none]) (st' := []) (h' := kv_wd (kx_mx g c [60]) w) rfl ?_
  refine kx_st 5 (pc' := 68) (L' := [some (.ref 65), some (.int 5), some (.int x), none]) (st' := [.int (x + 1), .int 2, .ref 65]) (h' := kv_wd (kx_mx g c [60]) w) rfl ?_
  refine kx_call (z := 206) (as := [.ref 65, .int 2, .int (x + 1)]) (rest := []) (v := some (.int ((((x + 1) + N) * 2) - (1 - M)))) (h1 := kv_wd (kx_mx g c [60, 30, 11, 10, 12]) w) rfl (by rw [← show kx_mx (kx_mx g c [60]) (c + 1) [30, 11, 10, 12] = kx_mx g c [60, 30, 11, 10, 12] from kx_mx_app g c [60] [30, 11, 10, 12]]; exact ev_ti_5_2 (d := d + 0) (g := kx_mx g c [60]) N M V (c + 1) (kx_MS_mx [60] hs) hV (by omega) (x + 1)) ?_
  refine kx_st 0 (pc' := 71) (L' := [some (.ref 65), some (.int 5), some (.int x), none]) (st' := [.int ((((x + 1) + N) * 2) - (1 - M))]) (h' := kv_wd (kx_mx g c [60, 30, 11, 10, 12]) w) rfl ?_
  refine kx_ret (v := some (.int ((((x + 1) + N) * 2) - (1 - M)))) rfl ?_
  exact ⟨rfl, rfl⟩
set_option maxRecDepth 100000 in
theorem ev_te_5_0 {E : kv_V} {d : Nat} {g : kv_S} {w : kv_W} (N M V : Int32) (c : Nat) (hs : kx_MS g c N M V) (hV : V = 5) (h40 : c + 7 ≤ 40) (x : Int32) : kv_ev E (d + 8) 207 [.ref 65, .int 0, .int x] (kv_wd g w) (some (.int (((((x + 1) + N) * 2) - (1 - M)) ^^^ (x - M)))) (kv_wd (kx_mx g c [13, 60, 30, 11, 10, 12, 12]) w) := by
  refine kx_ev (d := d + 7) (by decide) (Nat.le_of_ble_eq_true rfl) ?_
  refine kx_st 0 (pc' := 0) (L' := [some (.ref 65), some (.int 0), some (.int x), none]) (st' := []) (h' := kv_wd g w) rfl ?_
  refine kx_st 1 (pc' := 1) (L' := [some (.ref 65), some (.int 0), some (.int x), none]) (st' := [.int 0]) (h' := kv_wd g w) rfl ?_
  refine kx_st 1 (pc' := 4) (L' := [some (.ref 65), some (.int 0), some (.int x), none]) (st' := []) (h' := kv_wd g w) rfl ?_
  refine kx_st 2 (pc' := 7) (L' := [some (.ref 65), some (.int 0), some (.int x), none]) (st' := [.int 13, .ref 65]) (h' := kv_wd g w) rfl ?_
  refine kx_call (z := 203) (as := [.ref 65, .int 13]) (rest := []) (v := none) (h1 := kv_wd (kx_mx g c [13]) w) rfl (ev_ran (d := d + 6) c hs.1 (by omega) 13) ?_
  refine kx_st 0 (pc' := 10) (L' := [some (.ref 65), some (.int 0), some (.int x), none]) (st' := []) (h' := kv_wd (kx_mx g c [13]) w) rfl ?_
  refine kx_st 4 (pc' := 16) (L' := [some (.ref 65), some (.int 0), some (.int x), none]) (st' := [.int x, .int ((kx_mx g c [13]) 65 21), .ref 65]) (h' := kv_wd (kx_mx g c [13]) w) rfl ?_
  refine kx_call (z := 206) (as := [.ref 65, .int ((kx_mx g c [13]) 65 21), .int x]) (rest := []) (v := some (.int ((((x + 1) + N) * 2) - (1 - M)))) (h1 := kv_wd (kx_mx g c [13, 60, 30, 11, 10, 12]) w) rfl (by rw [← show kx_mx (kx_mx g c [13]) (c + 1) [60, 30, 11, 10, 12] = kx_mx g c [13, 60, 30, 11, 10, 12] from kx_mx_app g c [13] [60, 30, 11, 10, 12]]; rw [show (kx_mx g c [13]) 65 21 = 5 from (kx_MS_mx [13] hs).2.1.trans hV]; exact ev_ti_5_5 (d := d + 0) (g := kx_mx g c [13]) N M V (c + 1) (kx_MS_mx [13] hs) hV (by omega) x) ?_
  refine kx_st 0 (pc' := 19) (L' := [some (.ref 65), some (.int 0), some (.int x), none]) (st' := [.int ((((x + 1) + N) * 2) - (1 - M))]) (h' := kv_wd (kx_mx g c [13, 60, 30, 11, 10, 12]) w) rfl ?_
  refine kx_st 6 (pc' := 27) (L' := [some (.ref 65), some (.int 0), some (.int x), some (.int ((((x + 1) + N) * 2) - (1 - M)))]) (st' := [.int x, .int ((kx_mx g c [13, 60, 30, 11, 10, 12]) 65 21), .ref 65, .int ((((x + 1) + N) * 2) - (1 - M))]) (h' := kv_wd (kx_mx g c [13, 60, 30, 11, 10, 12]) w) rfl ?_
  refine kx_call (z := 205) (as := [.ref 65, .int ((kx_mx g c [13, 60, 30, 11, 10, 12]) 65 21), .int x]) (rest := [.int ((((x + 1) + N) * 2) - (1 - M))]) (v := some (.int (x - M))) (h1 := kv_wd (kx_mx g c [13, 60, 30, 11, 10, 12, 12]) w) rfl (by rw [← show kx_mx (kx_mx g c [13, 60, 30, 11, 10, 12]) (c + 6) [12] = kx_mx g c [13, 60, 30, 11, 10, 12, 12] from kx_mx_app g c [13, 60, 30, 11, 10, 12] [12]]; rw [show (kx_mx g c [13, 60, 30, 11, 10, 12]) 65 21 = 5 from (kx_MS_mx [13, 60, 30, 11, 10, 12] hs).2.1.trans hV]; exact ev_sl_5 (d := d + 3) (g := kx_mx g c [13, 60, 30, 11, 10, 12]) N M V (c + 6) (kx_MS_mx [13, 60, 30, 11, 10, 12] hs) (by omega) x) ?_
  refine kx_st 0 (pc' := 30) (L' := [some (.ref 65), some (.int 0), some (.int x), some (.int ((((x + 1) + N) * 2) - (1 - M)))]) (st' := [.int (x - M), .int ((((x + 1) + N) * 2) - (1 - M))]) (h' := kv_wd (kx_mx g c [13, 60, 30, 11, 10, 12, 12]) w) rfl ?_
  refine kx_st 1 (pc' := 31) (L' := [some (.ref 65), some (.int 0), some (.int x), some (.int ((((x + 1) + N) * 2) - (1 - M)))]) (st' := [.int (((((x + 1) + N) * 2) - (1 - M)) ^^^ (x - M))]) (h' := kv_wd (kx_mx g c [13, 60, 30, 11, 10, 12, 12]) w) rfl ?_
  refine kx_ret (v := some (.int (((((x + 1) + N) * 2) - (1 - M)) ^^^ (x - M)))) rfl ?_
  exact ⟨rfl, rfl⟩
set_option maxRecDepth 100000 in
theorem ev_te_5_2 {E : kv_V} {d : Nat} {g : kv_S} {w : kv_W} (N M V : Int32) (c : Nat) (hs : kx_MS g c N M V) (hV : V = 5) (h40 : c + 7 ≤ 40) (x : Int32) : kv_ev E (d + 9) 207 [.ref 65, .int 2, .int x] (kv_wd g w) (some (.int (((((x + 1) + N) * 2) - (1 - M)) ^^^ (x - M)))) (kv_wd (kx_mx g c [13, 60, 30, 11, 10, 12, 12]) w) := by
  refine kx_ev (d := d + 8) (by decide) (Nat.le_of_ble_eq_true rfl) ?_
  refine kx_st 0 (pc' := 0) (L' := [some (.ref 65), some (.int 2), some (.int x), none]) (st' := []) (h' := kv_wd g w) rfl ?_
  refine kx_st 1 (pc' := 1) (L' := [some (.ref 65), some (.int 2), some (.int x), none]) (st' := [.int 2]) (h' := kv_wd g w) rfl ?_
  refine kx_st 1 (pc' := 32) (L' := [some (.ref 65), some (.int 2), some (.int x), none]) (st' := []) (h' := kv_wd g w) rfl ?_
  refine kx_st 2 (pc' := 34) (L' := [some (.ref 65), some (.int 2), some (.int x), none]) (st' := [.int 4, .int 2]) (h' := kv_wd g w) rfl ?_
  refine kx_st 1 (pc' := 62) (L' := [some (.ref 65), some (.int 2), some (.int x), none]) (st' := []) (h' := kv_wd g w) rfl ?_
  refine kx_st 2 (pc' := 65) (L' := [some (.ref 65), some (.int 2), some (.int x), none]) (st' := [.int 6, .int 2]) (h' := kv_wd g w) rfl ?_
  refine kx_st 1 (pc' := 93) (L' := [some (.ref 65), some (.int 2), some (.int x), none]) (st' := []) (h' := kv_wd g w) rfl ?_
  refine kx_st 2 (pc' := 95) (L' := [some (.ref 65), some (.int 2), some (.int x), none]) (st' := [.int 2, .ref 65]) (h' := kv_wd g w) rfl ?_
  refine kx_call (z := 153) (as := [.int 2]) (rest := [.ref 65]) (v := some (.int 0)) (h1 := kv_wd g w) rfl (ev_mabove_2 (d := d + 7)) ?_
  refine kx_st 0 (pc' := 98) (L' := [some (.ref 65), some (.int 2), some (.int x), none]) (st' := [.int 0, .ref 65]) (h' := kv_wd g w) rfl ?_
  refine kx_st 1 (pc' := 99) (L' := [some (.ref 65), some (.int 2), some (.int x), none]) (st' := [.int x, .int 0, .ref 65]) (h' := kv_wd g w) rfl ?_
  refine kx_call (z := 207) (as := [.ref 65, .int 0, .int x]) (rest := []) (v := some (.int (((((x + 1) + N) * 2) - (1 - M)) ^^^ (x - M)))) (h1 := kv_wd (kx_mx g c [13, 60, 30, 11, 10, 12, 12]) w) rfl (by exact ev_te_5_0 (d := d + 0) (g := g) N M V c hs hV (by omega) x) ?_
  refine kx_st 0 (pc' := 102) (L' := [some (.ref 65), some (.int 2), some (.int x), none]) (st' := [.int (((((x + 1) + N) * 2) - (1 - M)) ^^^ (x - M))]) (h' := kv_wd (kx_mx g c [13, 60, 30, 11, 10, 12, 12]) w) rfl ?_
  refine kx_ret (v := some (.int (((((x + 1) + N) * 2) - (1 - M)) ^^^ (x - M)))) rfl ?_
  exact ⟨rfl, rfl⟩
set_option maxRecDepth 100000 in
theorem ev_te_5_5 {E : kv_V} {d : Nat} {g : kv_S} {w : kv_W} (N M V : Int32) (c : Nat) (hs : kx_MS g c N M V) (hV : V = 5) (h40 : c + 7 ≤ 40) (x : Int32) : kv_ev E (d + 10) 207 [.ref 65, .int 5, .int x] (kv_wd g w) (some (.int (((((x + 1) + N) * 2) - (1 - M)) ^^^ (x - M)))) (kv_wd (kx_mx g c [13, 60, 30, 11, 10, 12, 12]) w) := by
  refine kx_ev (d := d + 9) (by decide) (Nat.le_of_ble_eq_true rfl) ?_
  refine kx_st 0 (pc' := 0) (L' := [some (.ref 65), some (.int 5), some (.int x), none]) (st' := []) (h' := kv_wd g w) rfl ?_
  refine kx_st 1 (pc' := 1) (L' := [some (.ref 65), some (.int 5), some (.int x), none]) (st' := [.int 5]) (h' := kv_wd g w) rfl ?_
  refine kx_st 1 (pc' := 32) (L' := [some (.ref 65), some (.int 5), some (.int x), none]) (st' := []) (h' := kv_wd g w) rfl ?_
  refine kx_st 2 (pc' := 34) (L' := [some (.ref 65), some (.int 5), some (.int x), none]) (st' := [.int 4, .int 5]) (h' := kv_wd g w) rfl ?_
  refine kx_st 1 (pc' := 62) (L' := [some (.ref 65), some (.int 5), some (.int x), none]) (st' := []) (h' := kv_wd g w) rfl ?_
  refine kx_st 2 (pc' := 65) (L' := [some (.ref 65), some (.int 5), some (.int x), none]) (st' := [.int 6, .int 5]) (h' := kv_wd g w) rfl ?_
  refine kx_st 1 (pc' := 93) (L' := [some (.ref 65), some (.int 5), some (.int x), none]) (st' := []) (h' := kv_wd g w) rfl ?_
  refine kx_st 2 (pc' := 95) (L' := [some (.ref 65), some (.int 5), some (.int x), none]) (st' := [.int 5, .ref 65]) (h' := kv_wd g w) rfl ?_
  refine kx_call (z := 153) (as := [.int 5]) (rest := [.ref 65]) (v := some (.int 2)) (h1 := kv_wd g w) rfl (ev_mabove_5 (d := d + 8)) ?_
  refine kx_st 0 (pc' := 98) (L' := [some (.ref 65), some (.int 5), some (.int x), none]) (st' := [.int 2, .ref 65]) (h' := kv_wd g w) rfl ?_
  refine kx_st 1 (pc' := 99) (L' := [some (.ref 65), some (.int 5), some (.int x), none]) (st' := [.int x, .int 2, .ref 65]) (h' := kv_wd g w) rfl ?_
  refine kx_call (z := 207) (as := [.ref 65, .int 2, .int x]) (rest := []) (v := some (.int (((((x + 1) + N) * 2) - (1 - M)) ^^^ (x - M)))) (h1 := kv_wd (kx_mx g c [13, 60, 30, 11, 10, 12, 12]) w) rfl (by exact ev_te_5_2 (d := d + 0) (g := g) N M V c hs hV (by omega) x) ?_
  refine kx_st 0 (pc' := 102) (L' := [some (.ref 65), some (.int 5), some (.int x), none]) (st' := [.int (((((x + 1) + N) * 2) - (1 - M)) ^^^ (x - M))]) (h' := kv_wd (kx_mx g c [13, 60, 30, 11, 10, 12, 12]) w) rfl ?_
  refine kx_ret (v := some (.int (((((x + 1) + N) * 2) - (1 - M)) ^^^ (x - M)))) rfl ?_
  exact ⟨rfl, rfl⟩
set_option maxRecDepth 100000 in
theorem ev_bi_6 {E : kv_V} {d : Nat} {g : kv_S} {w : kv_W} (N M V : Int32) (c : Nat) (hs : kx_MS g c N M V) (h40 : c + 1 ≤ 40) (x : Int32) : kv_ev E (d + 4) 204 [.ref 65, .int 6, .int x] (kv_wd g w) (some (.int (x + N))) (kv_wd (kx_mx g c [10]) w) := by
  refine kx_ev (d := d + 3) (by decide) (Nat.le_of_ble_eq_true rfl) ?_
  refine kx_st 0 (pc' := 0) (L' := [some (.ref 65), some (.int 6), some (.int x)]) (st' := []) (h' := kv_wd g w) rfl ?_
  refine kx_st 1 (pc' := 1) (L' := [some (.ref 65), some (.int 6), some (.int x)]) (st' := [.int 6]) (h' := kv_wd g w) rfl ?_
  refine kx_st 1 (pc' := 17) (L' := [some (.ref 65), some (.int 6), some (.int x)]) (st' := []) (h' := kv_wd g w) rfl ?_
  refine kx_st 2 (pc' := 19) (L' := [some (.ref 65), some (.int 6), some (.int x)]) (st' := [.int 1, .int 6]) (h' := kv_wd g w) rfl ?_
  refine kx_st 1 (pc' := 37) (L' := [some (.ref 65), some (.int 6), some (.int x)]) (st' := []) (h' := kv_wd g w) rfl ?_
  refine kx_st 2 (pc' := 39) (L' := [some (.ref 65), some (.int 6), some (.int x)]) (st' := [.int 6, .ref 65]) (h' := kv_wd g w) rfl ?_
  refine kx_call (z := 153) (as := [.int 6]) (rest := [.ref 65]) (v := some (.int 3)) (h1 := kv_wd g w) rfl (ev_mabove_6 (d := d + 2)) ?_
  refine kx_st 0 (pc' := 42) (L' := [some (.ref 65), some (.int 6), some (.int x)]) (st' := [.int 3, .ref 65]) (h' := kv_wd g w) rfl ?_
  refine kx_st 1 (pc' := 43) (L' := [some (.ref 65), some (.int 6), some (.int x)]) (st' := [.int x, .int 3, .ref 65]) (h' := kv_wd g w) rfl ?_
  refine kx_call (z := 204) (as := [.ref 65, .int 3, .int x]) (rest := []) (v := some (.int (x + N))) (h1 := kv_wd (kx_mx g c [10]) w) rfl (by exact ev_bi_3 (d := d + 0) (g := g) N M V c hs (by omega) x) ?_
  refine kx_st 0 (pc' := 46) (L' := [some (.ref 65), some (.int 6), some (.int x)]) (st' := [.int (x + N)]) (h' := kv_wd (kx_mx g c [10]) w) rfl ?_
  refine kx_ret (v := some (.int (x + N))) rfl ?_
  exact ⟨rfl, rfl⟩
set_option maxRecDepth 100000 in
theorem ev_ti_6_0 {E : kv_V} {d : Nat} {g : kv_S} {w : kv_W} (N M V : Int32) (c : Nat) (hs : kx_MS g c N M V) (hV : V = 6) (h40 : c + 2 ≤ 40) (x : Int32) : kv_ev E (d + 5) 206 [.ref 65, .int 0, .int x] (kv_wd g w) (some (.int ((x + N) * 2))) (kv_wd (kx_mx g c [11, 10]) w) := by
  refine kx_ev (d := d + 4) (by decide) (Nat.le_of_ble_eq_true rfl) ?_
  refine kx_st 0 (pc' := 0) (L' := [some (.ref 65), some (.int 0), some (.int x), none]) (st' := []) (h' := kv_wd g w) rfl ?_
  refine kx_st 1 (pc' := 1) (L' := [some (.ref 65), some (.int 0), some (.int x), none]) (st' := [.int 0]) (h' := kv_wd g w) rfl ?_
  refine kx_st 1 (pc' := 4) (L' := [some (.ref 65), some (.int 0), some (.int x), none]) (st' := []) (h' := kv_wd g w) rfl ?_
  refine kx_st 2 (pc' := 7) (L' := [some (.ref 65), some (.int 0), some (.int x), none]) (st' := [.int 11, .ref 65]) (h' := kv_wd g w) rfl ?_
  refine kx_call (z := 203) (as := [.ref 65, .int 11]) (rest := []) (v := none) (h1 := kv_wd (kx_mx g c [11]) w) rfl (ev_ran (d := d + 3) c hs.1 (by omega) 11) ?_
  refine kx_st 0 (pc' := 10) (L' := [some (.ref 65), some (.int 0), some (.int x), none]) (st' := []) (h' := kv_wd (kx_mx g c [11]) w) rfl ?_
  refine kx_st 4 (pc' := 16) (L' := [some (.ref 65), some (.int 0), some (.int x), none]) (st' := [.int x, .int ((kx_mx g c [11]) 65 21), .ref 65]) (h' := kv_wd (kx_mx g c [11]) w) rfl ?_
  refine kx_call (z := 204) (as := [.ref 65, .int ((kx_mx g c [11]) 65 21), .int x]) (rest := []) (v := some (.int (x + N))) (h1 := kv_wd (kx_mx g c [11, 10]) w) rfl (by rw [← show kx_mx (kx_mx g c [11]) (c + 1) [10] = kx_mx g c [11, 10] from kx_mx_app g c [11] [10]]; rw [show (kx_mx g c [11]) 65 21 = 6 from (kx_MS_mx [11] hs).2.1.trans hV]; exact ev_bi_6 (d := d + 0) (g := kx_mx g c [11]) N M V (c + 1) (kx_MS_mx [11] hs) (by omega) x) ?_
  refine kx_st 0 (pc' := 19) (L' := [some (.ref 65), some (.int 0), some (.int x), none]) (st' := [.int (x + N)]) (h' := kv_wd (kx_mx g c [11, 10]) w) rfl ?_
  refine kx_st 2 (pc' := 21) (L' := [some (.ref 65), some (.int 0), some (.int x), none]) (st' := [.int ((x + N) * 2)]) (h' := kv_wd (kx_mx g c [11, 10]) w) rfl ?_
  refine kx_ret (v := some (.int ((x + N) * 2))) rfl ?_
  exact ⟨rfl, rfl⟩
set_option maxRecDepth 100000 in
theorem ev_ti_6_3 {E : kv_V} {d : Nat} {g : kv_S} {w : kv_W} (N M V : Int32) (c : Nat) (hs : kx_MS g c N M V) (hV : V = 6) (h40 : c + 2 ≤ 40) (x : Int32) : kv_ev E (d + 6) 206 [.ref 65, .int 3, .int x] (kv_wd g w) (some (.int ((x + N) * 2))) (kv_wd (kx_mx g c [11, 10]) w) := by
  refine kx_ev (d := d + 5) (by decide) (Nat.le_of_ble_eq_true rfl) ?_
  refine kx_st 0 (pc' := 0) (L' := [some (.ref 65), some (.int 3), some (.int x), none]) (st' := []) (h' := kv_wd g w) rfl ?_
  refine kx_st 1 (pc' := 1) (L' := [some (.ref 65), some (.int 3), some (.int x), none]) (st' := [.int 3]) (h' := kv_wd g w) rfl ?_
  refine kx_st 1 (pc' := 22) (L' := [some (.ref 65), some (.int 3), some (.int x), none]) (st' := []) (h' := kv_wd g w) rfl ?_
  refine kx_st 2 (pc' := 24) (L' := [some (.ref 65), some (.int 3), some (.int x), none]) (st' := [.int 2, .int 3]) (h' := kv_wd g w) rfl ?_
  refine kx_st 1 (pc' := 52) (L' := [some (.ref 65), some (.int 3), some (.int x), none]) (st' := []) (h' := kv_wd g w) rfl ?_
  refine kx_st 2 (pc' := 54) (L' := [some (.ref 65), some (.int 3), some (.int x), none]) (st' := [.int 5, .int 3]) (h' := kv_wd g w) rfl ?_
  refine kx_st 1 (pc' := 72) (L' := [some (.ref 65), some (.int 3), some (.int x), none]) (st' := []) (h' := kv_wd g w) rfl ?_
  refine kx_st 2 (pc' := 74) (L' := [some (.ref 65), some (.int 3), some (.int x), none]) (st' := [.int 3, .ref 65]) (h' := kv_wd g w) rfl ?_
  refine kx_call (z := 153) (as := [.int 3]) (rest := [.ref 65]) (v := some (.int 0)) (h1 := kv_wd g w) rfl (ev_mabove_3 (d := d + 4)) ?_
  refine kx_st 0 (pc' := 77) (L' := [some (.ref 65), some (.int 3), some (.int x), none]) (st' := [.int 0, .ref 65]) (h' := kv_wd g w) rfl ?_
  refine kx_st 1 (pc' := 78) (L' := [some (.ref 65), some (.int 3), some (.int x), none]) (st' := [.int x, .int 0, .ref 65]) (h' := kv_wd g w) rfl ?_
  refine kx_call (z := 206) (as := [.ref 65, .int 0, .int x]) (rest := []) (v := some (.int ((x + N) * 2))) (h1 := kv_wd (kx_mx g c [11, 10]) w) rfl (by exact ev_ti_6_0 (d := d + 0) (g := g) N M V c hs hV (by omega) x) ?_
  refine kx_st 0 (pc' := 81) (L' := [some (.ref 65), some (.int 3), some (.int x), none]) (st' := [.int ((x + N) * 2)]) (h' := kv_wd (kx_mx g c [11, 10]) w) rfl ?_
  refine kx_ret (v := some (.int ((x + N) * 2))) rfl ?_
  exact ⟨rfl, rfl⟩
set_option maxRecDepth 100000 in
theorem ev_ti_6_6 {E : kv_V} {d : Nat} {g : kv_S} {w : kv_W} (N M V : Int32) (c : Nat) (hs : kx_MS g c N M V) (hV : V = 6) (h40 : c + 2 ≤ 40) (x : Int32) : kv_ev E (d + 7) 206 [.ref 65, .int 6, .int x] (kv_wd g w) (some (.int ((x + N) * 2))) (kv_wd (kx_mx g c [11, 10]) w) := by
  refine kx_ev (d := d + 6) (by decide) (Nat.le_of_ble_eq_true rfl) ?_
  refine kx_st 0 (pc' := 0) (L' := [some (.ref 65), some (.int 6), some (.int x), none]) (st' := []) (h' := kv_wd g w) rfl ?_
  refine kx_st 1 (pc' := 1) (L' := [some (.ref 65), some (.int 6), some (.int x), none]) (st' := [.int 6]) (h' := kv_wd g w) rfl ?_
  refine kx_st 1 (pc' := 22) (L' := [some (.ref 65), some (.int 6), some (.int x), none]) (st' := []) (h' := kv_wd g w) rfl ?_
  refine kx_st 2 (pc' := 24) (L' := [some (.ref 65), some (.int 6), some (.int x), none]) (st' := [.int 2, .int 6]) (h' := kv_wd g w) rfl ?_
  refine kx_st 1 (pc' := 52) (L' := [some (.ref 65), some (.int 6), some (.int x), none]) (st' := []) (h' := kv_wd g w) rfl ?_
  refine kx_st 2 (pc' := 54) (L' := [some (.ref 65), some (.int 6), some (.int x), none]) (st' := [.int 5, .int 6]) (h' := kv_wd g w) rfl ?_
  refine kx_st 1 (pc' := 72) (L' := [some (.ref 65), some (.int 6), some (.int x), none]) (st' := []) (h' := kv_wd g w) rfl ?_
  refine kx_st 2 (pc' := 74) (L' := [some (.ref 65), some (.int 6), some (.int x), none]) (st' := [.int 6, .ref 65]) (h' := kv_wd g w) rfl ?_
  refine kx_call (z := 153) (as := [.int 6]) (rest := [.ref 65]) (v := some (.int 3)) (h1 := kv_wd g w) rfl (ev_mabove_6 (d := d + 5)) ?_
  refine kx_st 0 (pc' := 77) (L' := [some (.ref 65), some (.int 6), some (.int x), none]) (st' := [.int 3, .ref 65]) (h' := kv_wd g w) rfl ?_
  refine kx_st 1 (pc' := 78) (L' := [some (.ref 65), some (.int 6), some (.int x), none]) (st' := [.int x, .int 3, .ref 65]) (h' := kv_wd g w) rfl ?_
  refine kx_call (z := 206) (as := [.ref 65, .int 3, .int x]) (rest := []) (v := some (.int ((x + N) * 2))) (h1 := kv_wd (kx_mx g c [11, 10]) w) rfl (by exact ev_ti_6_3 (d := d + 0) (g := g) N M V c hs hV (by omega) x) ?_
  refine kx_st 0 (pc' := 81) (L' := [some (.ref 65), some (.int 6), some (.int x), none]) (st' := [.int ((x + N) * 2)]) (h' := kv_wd (kx_mx g c [11, 10]) w) rfl ?_
  refine kx_ret (v := some (.int ((x + N) * 2))) rfl ?_
  exact ⟨rfl, rfl⟩
set_option maxRecDepth 100000 in
theorem ev_sl_6 {E : kv_V} {d : Nat} {g : kv_S} {w : kv_W} (N M V : Int32) (c : Nat) (hs : kx_MS g c N M V) (h40 : c + 3 ≤ 40) (x : Int32) : kv_ev E (d + 4) 205 [.ref 65, .int 6, .int x] (kv_wd g w) (some (.int ((-(x - M)) ^^^ N))) (kv_wd (kx_mx g c [70, 40, 12]) w) := by
  refine kx_ev (d := d + 3) (by decide) (Nat.le_of_ble_eq_true rfl) ?_
  refine kx_st 0 (pc' := 0) (L' := [some (.ref 65), some (.int 6), some (.int x)]) (st' := []) (h' := kv_wd g w) rfl ?_
  refine kx_st 1 (pc' := 1) (L' := [some (.ref 65), some (.int 6), some (.int x)]) (st' := [.int 6]) (h' := kv_wd g w) rfl ?_
  refine kx_st 1 (pc' := 17) (L' := [some (.ref 65), some (.int 6), some (.int x)]) (st' := []) (h' := kv_wd g w) rfl ?_
  refine kx_st 2 (pc' := 19) (L' := [some (.ref 65), some (.int 6), some (.int x)]) (st' := [.int 3, .int 6]) (h' := kv_wd g w) rfl ?_
  refine kx_st 1 (pc' := 36) (L' := [some (.ref 65), some (.int 6), some (.int x)]) (st' := []) (h' := kv_wd g w) rfl ?_
  refine kx_st 2 (pc' := 39) (L' := [some (.ref 65), some (.int 6), some (.int x)]) (st' := [.int 6, .int 6]) (h' := kv_wd g w) rfl ?_
  refine kx_st 1 (pc' := 42) (L' := [some (.ref 65), some (.int 6), some (.int x)]) (st' := []) (h' := kv_wd g w) rfl ?_
  refine kx_st 2 (pc' := 45) (L' := [some (.ref 65), some (.int 6), some (.int x)]) (st' := [.int 70, .ref 65]) (h' := kv_wd g w) rfl ?_
  refine kx_call (z := 203) (as := [.ref 65, .int 70]) (rest := []) (v := none) (h1 := kv_wd (kx_mx g c [70]) w) rfl (ev_ran (d := d + 2) c hs.1 (by omega) 70) ?_
  refine kx_st 0 (pc' := 48) (L' := [some (.ref 65), some (.int 6), some (.int x)]) (st' := []) (h' := kv_wd (kx_mx g c [70]) w) rfl ?_
  refine kx_st 3 (pc' := 51) (L' := [some (.ref 65), some (.int 6), some (.int x)]) (st' := [.int x, .int 3, .ref 65]) (h' := kv_wd (kx_mx g c [70]) w) rfl ?_
  refine kx_call (z := 205) (as := [.ref 65, .int 3, .int x]) (rest := []) (v := some (.int (-(x - M)))) (h1 := kv_wd (kx_mx g c [70, 40, 12]) w) rfl (by rw [← show kx_mx (kx_mx g c [70]) (c + 1) [40, 12] = kx_mx g c [70, 40, 12] from kx_mx_app g c [70] [40, 12]]; exact ev_sl_3 (d := d + 0) (g := kx_mx g c [70]) N M V (c + 1) (kx_MS_mx [70] hs) (by omega) x) ?_
  refine kx_st 0 (pc' := 54) (L' := [some (.ref 65), some (.int 6), some (.int x)]) (st' := [.int (-(x - M))]) (h' := kv_wd (kx_mx g c [70, 40, 12]) w) rfl ?_
  refine kx_st 3 (pc' := 59) (L' := [some (.ref 65), some (.int 6), some (.int x)]) (st' := [.int ((-(x - M)) ^^^ ((kx_mx g c [70, 40, 12]) 65 22))]) (h' := kv_wd (kx_mx g c [70, 40, 12]) w) rfl ?_
  refine kx_ret (v := some (.int ((-(x - M)) ^^^ ((kx_mx g c [70, 40, 12]) 65 22)))) rfl ?_
  exact ⟨by rw [show (kx_mx g c [70, 40, 12]) 65 22 = N from (kx_MS_mx [70, 40, 12] hs).2.2.1], rfl⟩
set_option maxRecDepth 100000 in
theorem ev_te_6_0 {E : kv_V} {d : Nat} {g : kv_S} {w : kv_W} (N M V : Int32) (c : Nat) (hs : kx_MS g c N M V) (hV : V = 6) (h40 : c + 6 ≤ 40) (x : Int32) : kv_ev E (d + 8) 207 [.ref 65, .int 0, .int x] (kv_wd g w) (some (.int (((x + N) * 2) ^^^ ((-(x - M)) ^^^ N)))) (kv_wd (kx_mx g c [13, 11, 10, 70, 40, 12]) w) := by
  refine kx_ev (d := d + 7) (by decide) (Nat.le_of_ble_eq_true rfl) ?_
  refine kx_st 0 (pc' := 0) (L' := [some (.ref 65), some (.int 0), some (.int x), none]) (st' := []) (h' := kv_wd g w) rfl ?_
  refine kx_st 1 (pc' := 1) (L' := [some (.ref 65), some (.int 0), some (.int x), none]) (st' := [.int 0]) (h' := kv_wd g w) rfl ?_
  refine kx_st 1 (pc' := 4) (L' := [some (.ref 65), some (.int 0), some (.int x), none]) (st' := []) (h' := kv_wd g w) rfl ?_
  refine kx_st 2 (pc' := 7) (L' := [some (.ref 65), some (.int 0), some (.int x), none]) (st' := [.int 13, .ref 65]) (h' := kv_wd g w) rfl ?_
  refine kx_call (z := 203) (as := [.ref 65, .int 13]) (rest := []) (v := none) (h1 := kv_wd (kx_mx g c [13]) w) rfl (ev_ran (d := d + 6) c hs.1 (by omega) 13) ?_
  refine kx_st 0 (pc' := 10) (L' := [some (.ref 65), some (.int 0), some (.int x), none]) (st' := []) (h' := kv_wd (kx_mx g c [13]) w) rfl ?_
  refine kx_st 4 (pc' := 16) (L' := [some (.ref 65), some (.int 0), some (.int x), none]) (st' := [.int x, .int ((kx_mx g c [13]) 65 21), .ref 65]) (h' := kv_wd (kx_mx g c [13]) w) rfl ?_
  refine kx_call (z := 206) (as := [.ref 65, .int ((kx_mx g c [13]) 65 21), .int x]) (rest := []) (v := some (.int ((x + N) * 2))) (h1 := kv_wd (kx_mx g c [13, 11, 10]) w) rfl (by rw [← show kx_mx (kx_mx g c [13]) (c + 1) [11, 10] = kx_mx g c [13, 11, 10] from kx_mx_app g c [13] [11, 10]]; rw [show (kx_mx g c [13]) 65 21 = 6 from (kx_MS_mx [13] hs).2.1.trans hV]; exact ev_ti_6_6 (d := d + 0) (g := kx_mx g c [13]) N M V (c + 1) (kx_MS_mx [13] hs) hV (by omega) x) ?_
  refine kx_st 0 (pc' := 19) (L' := [some (.ref 65), some (.int 0), some (.int x), none]) (st' := [.int ((x + N) * 2)]) (h' := kv_wd (kx_mx g c [13, 11, 10]) w) rfl ?_
  refine kx_st 6 (pc' := 27) (L' := [some (.ref 65), some (.int 0), some (.int x), some (.int ((x + N) * 2))]) (st' := [.int x, .int ((kx_mx g c [13, 11, 10]) 65 21), .ref 65, .int ((x + N) * 2)]) (h' := kv_wd (kx_mx g c [13, 11, 10]) w) rfl ?_
  refine kx_call (z := 205) (as := [.ref 65, .int ((kx_mx g c [13, 11, 10]) 65 21), .int x]) (rest := [.int ((x + N) * 2)]) (v := some (.int ((-(x - M)) ^^^ N))) (h1 := kv_wd (kx_mx g c [13, 11, 10, 70, 40, 12]) w) rfl (by rw [← show kx_mx (kx_mx g c [13, 11, 10]) (c + 3) [70, 40, 12] = kx_mx g c [13, 11, 10, 70, 40, 12] from kx_mx_app g c [13, 11, 10] [70, 40, 12]]; rw [show (kx_mx g c [13, 11, 10]) 65 21 = 6 from (kx_MS_mx [13, 11, 10] hs).2.1.trans hV]; exact ev_sl_6 (d := d + 3) (g := kx_mx g c [13, 11, 10]) N M V (c + 3) (kx_MS_mx [13, 11, 10] hs) (by omega) x) ?_
  refine kx_st 0 (pc' := 30) (L' := [some (.ref 65), some (.int 0), some (.int x), some (.int ((x + N) * 2))]) (st' := [.int ((-(x - M)) ^^^ N), .int ((x + N) * 2)]) (h' := kv_wd (kx_mx g c [13, 11, 10, 70, 40, 12]) w) rfl ?_
  refine kx_st 1 (pc' := 31) (L' := [some (.ref 65), some (.int 0), some (.int x), some (.int ((x + N) * 2))]) (st' := [.int (((x + N) * 2) ^^^ ((-(x - M)) ^^^ N))]) (h' := kv_wd (kx_mx g c [13, 11, 10, 70, 40, 12]) w) rfl ?_
  refine kx_ret (v := some (.int (((x + N) * 2) ^^^ ((-(x - M)) ^^^ N)))) rfl ?_
  exact ⟨rfl, rfl⟩
set_option maxRecDepth 100000 in
theorem ev_te_6_3 {E : kv_V} {d : Nat} {g : kv_S} {w : kv_W} (N M V : Int32) (c : Nat) (hs : kx_MS g c N M V) (hV : V = 6) (h40 : c + 6 ≤ 40) (x : Int32) : kv_ev E (d + 9) 207 [.ref 65, .int 3, .int x] (kv_wd g w) (some (.int (((x + N) * 2) ^^^ ((-(x - M)) ^^^ N)))) (kv_wd (kx_mx g c [13, 11, 10, 70, 40, 12]) w) := by
  refine kx_ev (d := d + 8) (by decide) (Nat.le_of_ble_eq_true rfl) ?_
  refine kx_st 0 (pc' := 0) (L' := [some (.ref 65), some (.int 3), some (.int x), none]) (st' := []) (h' := kv_wd g w) rfl ?_
  refine kx_st 1 (pc' := 1) (L' := [some (.ref 65), some (.int 3), some (.int x), none]) (st' := [.int 3]) (h' := kv_wd g w) rfl ?_
  refine kx_st 1 (pc' := 32) (L' := [some (.ref 65), some (.int 3), some (.int x), none]) (st' := []) (h' := kv_wd g w) rfl ?_
  refine kx_st 2 (pc' := 34) (L' := [some (.ref 65), some (.int 3), some (.int x), none]) (st' := [.int 4, .int 3]) (h' := kv_wd g w) rfl ?_
  refine kx_st 1 (pc' := 62) (L' := [some (.ref 65), some (.int 3), some (.int x), none]) (st' := []) (h' := kv_wd g w) rfl ?_
  refine kx_st 2 (pc' := 65) (L' := [some (.ref 65), some (.int 3), some (.int x), none]) (st' := [.int 6, .int 3]) (h' := kv_wd g w) rfl ?_
  refine kx_st 1 (pc' := 93) (L' := [some (.ref 65), some (.int 3), some (.int x), none]) (st' := []) (h' := kv_wd g w) rfl ?_
  refine kx_st 2 (pc' := 95) (L' := [some (.ref 65), some (.int 3), some (.int x), none]) (st' := [.int 3, .ref 65]) (h' := kv_wd g w) rfl ?_
  refine kx_call (z := 153) (as := [.int 3]) (rest := [.ref 65]) (v := some (.int 0)) (h1 := kv_wd g w) rfl (ev_mabove_3 (d := d + 7)) ?_
  refine kx_st 0 (pc' := 98) (L' := [some (.ref 65), some (.int 3), some (.int x), none]) (st' := [.int 0, .ref 65]) (h' := kv_wd g w) rfl ?_
  refine kx_st 1 (pc' := 99) (L' := [some (.ref 65), some (.int 3), some (.int x), none]) (st' := [.int x, .int 0, .ref 65]) (h' := kv_wd g w) rfl ?_
  refine kx_call (z := 207) (as := [.ref 65, .int 0, .int x]) (rest := []) (v := some (.int (((x + N) * 2) ^^^ ((-(x - M)) ^^^ N)))) (h1 := kv_wd (kx_mx g c [13, 11, 10, 70, 40, 12]) w) rfl (by exact ev_te_6_0 (d := d + 0) (g := g) N M V c hs hV (by omega) x) ?_
  refine kx_st 0 (pc' := 102) (L' := [some (.ref 65), some (.int 3), some (.int x), none]) (st' := [.int (((x + N) * 2) ^^^ ((-(x - M)) ^^^ N))]) (h' := kv_wd (kx_mx g c [13, 11, 10, 70, 40, 12]) w) rfl ?_
  refine kx_ret (v := some (.int (((x + N) * 2) ^^^ ((-(x - M)) ^^^ N)))) rfl ?_
  exact ⟨rfl, rfl⟩
set_option maxRecDepth 100000 in
theorem ev_te_6_6 {E : kv_V} {d : Nat} {g : kv_S} {w : kv_W} (N M V : Int32) (c : Nat) (hs : kx_MS g c N M V) (hV : V = 6) (h40 : c + 9 ≤ 40) (x : Int32) : kv_ev E (d + 10) 207 [.ref 65, .int 6, .int x] (kv_wd g w) (some (.int (((x + N) * 2) - (((x + N) * 2) ^^^ ((-(x - M)) ^^^ N))))) (kv_wd (kx_mx g c [71, 11, 10, 13, 11, 10, 70, 40, 12]) w) := by
  refine kx_ev (d := d + 9) (by decide) (Nat.le_of_ble_eq_true rfl) ?_
  refine kx_st 0 (pc' := 0) (L' := [some (.ref 65), some (.int 6), some (.int x), none]) (st' := []) (h' := kv_wd g w) rfl ?_
  refine kx_st 1 (pc' := 1) (L' := [some (.ref 65), some (.int 6), some (.int x), none]) (st' := [.int 6]) (h' := kv_wd g w) rfl ?_
  refine kx_st 1 (pc' := 32) (L' := [some (.ref 65), some (.int 6), some (.int x), none]) (st' := []) (h' := kv_wd g w) rfl ?_
  refine kx_st 2 (pc' := 34) (L' := [some (.ref 65), some (.int 6), some (.int x), none]) (st' := [.int 4, .int 6]) (h' := kv_wd g w) rfl ?_
  refine kx_st 1 (pc' := 62) (L' := [some (.ref 65), some (.int 6), some (.int x), none]) (st' := []) (h' := kv_wd g w) rfl ?_
  refine kx_st 2 (pc' := 65) (L' := [some (.ref 65), some (.int 6), some (.int x), none]) (st' := [.int 6, .int 6]) (h' := kv_wd g w) rfl ?_
  refine kx_st 1 (pc' := 68) (L' := [some (.ref 65), some (.int 6), some (.int x), none]) (st' := []) (h' := kv_wd g w) rfl ?_
  refine kx_st 2 (pc' := 71) (L' := [some (.ref 65), some (.int 6), some (.int x), none]) (st' := [.int 71, .ref 65]) (h' := kv_wd g w) rfl ?_
  refine kx_call (z := 203) (as := [.ref 65, .int 71]) (rest := []) (v := none) (h1 := kv_wd (kx_mx g c [71]) w) rfl (ev_ran (d := d + 8) c hs.1 (by omega) 71) ?_
  refine kx_st 0 (pc' := 74) (L' := [some (.ref 65), some (.int 6), some (.int x), none]) (st' := []) (h' := kv_wd (kx_mx g c [71]) w) rfl ?_
  refine kx_st 4 (pc' := 80) (L' := [some (.ref 65), some (.int 6), some (.int x), none]) (st' := [.int x, .int ((kx_mx g c [71]) 65 21), .ref 65]) (h' := kv_wd (kx_mx g c [71]) w) rfl ?_
  refine kx_call (z := 206) (as := [.ref 65, .int ((kx_mx g c [71]) 65 21), .int x]) (rest := []) (v := some (.int ((x + N) * 2))) (h1 := kv_wd (kx_mx g c [71, 11, 10]) w) rfl (by rw [← show kx_mx (kx_mx g c [71]) (c + 1) [11, 10] = kx_mx g c [71, 11, 10] from kx_mx_app g c [71] [11, 10]]; rw [show (kx_mx g c [71]) 65 21 = 6 from (kx_MS_mx [71] hs).2.1.trans hV]; exact ev_ti_6_6 (d := d + 2) (g := kx_mx g c [71]) N M V (c + 1) (kx_MS_mx [71] hs) hV (by omega) x) ?_
  refine kx_st 0 (pc' := 83) (L' := [some (.ref 65), some (.int 6), some (.int x), none]) (st' := [.int ((x + N) * 2)]) (h' := kv_wd (kx_mx g c [71, 11, 10]) w) rfl ?_
  refine kx_st 5 (pc' := 88) (L' := [some (.ref 65), some (.int 6), some (.int x), some (.int ((x + N) * 2))]) (st' := [.int x, .int 3, .ref 65, .int ((x + N) * 2)]) (h' := kv_wd (kx_mx g c [71, 11, 10]) w) rfl ?_
  refine kx_call (z := 207) (as := [.ref 65, .int 3, .int x]) (rest := [.int ((x + N) * 2)]) (v := some (.int (((x + N) * 2) ^^^ ((-(x - M)) ^^^ N)))) (h1 := kv_wd (kx_mx g c [71, 11, 10, 13, 11, 10, 70, 40, 12]) w) rfl (by rw [← show kx_mx (kx_mx g c [71, 11, 10]) (c + 3) [13, 11, 10, 70, 40, 12] = kx_mx g c [71, 11, 10, 13, 11, 10, 70, 40, 12] from kx_mx_app g c [71, 11, 10] [13, 11, 10, 70, 40, 12]]; exact ev_te_6_3 (d := d + 0) (g := kx_mx g c [71, 11, 10]) N M V (c + 3) (kx_MS_mx [71, 11, 10] hs) hV (by omega) x) ?_
  refine kx_st 0 (pc' := 91) (L' := [some (.ref 65), some (.int 6), some (.int x), some (.int ((x + N) * 2))]) (st' := [.int (((x + N) * 2) ^^^ ((-(x - M)) ^^^ N)), .int ((x + N) * 2)]) (h' := kv_wd (kx_mx g c [71, 11, 10, 13, 11, 10, 70, 40, 12]) w) rfl ?_
  refine kx_st 1 (pc' := 92) (L' := [some (.ref 65), some (.int 6), some (.int x), some (.int ((x + N) * 2))]) (st' := [.int (((x + N) * 2) - (((x + N) * 2) ^^^ ((-(x - M)) ^^^ N)))]) (h' := kv_wd (kx_mx g c [71, 11, 10, 13, 11, 10, 70, 40, 12]) w) rfl ?_
  refine kx_ret (v := some (.int (((x + N) * 2) - (((x + N) * 2) ^^^ ((-(x - M)) ^^^ N))))) rfl ?_
  exact ⟨rfl, rfl⟩
