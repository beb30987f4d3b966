/-! TEXTS: a text's law is one function on both sides; the pair text -/
def kx_cl (m v : Int32) : Int32 := if v < 0 then 0 else if m < v then m else v
theorem kx_cl_e {v m : Int32} (hm : 0 < m) : (if 0 < (if v < m then v else m) then (if v < m then v else m) else 0) = kx_cl m v := by
  unfold kx_cl
  have h0 : (0 : Int32).toInt = 0 := rfl
  rw [Int32.lt_iff_toInt_lt, h0] at hm
  by_cases h1 : v < m
  · rw [if_pos h1]
    have h1' := Int32.lt_iff_toInt_lt.mp h1
    have h2 : ¬ m < v := by rw [Int32.lt_iff_toInt_lt]; omega
    rw [if_neg h2]
    by_cases h3 : 0 < v
    · have h3' := Int32.lt_iff_toInt_lt.mp h3
      rw [if_pos h3, if_neg (by rw [Int32.lt_iff_toInt_lt]; omega)]
    · rw [if_neg h3]
      by_cases h4 : v < 0
      · rw [if_pos h4]
      · rw [if_neg h4]
        rw [Int32.lt_iff_toInt_lt] at h3 h4
        exact Int32.toInt_inj.mp (by omega)
  · rw [if_neg h1]
    have h1' : ¬ v.toInt < m.toInt := fun z => h1 (Int32.lt_iff_toInt_lt.mpr z)
    rw [if_pos (by rw [Int32.lt_iff_toInt_lt, h0]; exact hm), if_neg (by rw [Int32.lt_iff_toInt_lt]; omega)]
    by_cases h2 : m < v
    · rw [if_pos h2]
    · rw [if_neg h2]
      rw [Int32.lt_iff_toInt_lt] at h2
      exact Int32.toInt_inj.mp (by omega)
theorem kx_cl_r {m : Nat} (hm : m < 1000) (v : Int32) : ∃ x, x ≤ m ∧ kx_cl (nI m) v = nI x := by
  unfold kx_cl
  by_cases h1 : v < 0
  · rw [if_pos h1]; exact ⟨0, by omega, rfl⟩
  · rw [if_neg h1]
    by_cases h2 : nI m < v
    · rw [if_pos h2]; exact ⟨m, Nat.le_refl _, rfl⟩
    · rw [if_neg h2]; exact kx_nIof (Int32.not_lt.mp h1) (Int32.not_lt.mp h2) (by omega)
set_option maxRecDepth 100000 in
theorem ev_worked6 {E : kv_V} {d : Nat} {g : kv_S} {w : kv_W} (a b c : Int32) (cd : List Int32) (l50 : cd.length ≤ 50) (hl : g 6 2 = nI cd.length) (hg : ∀ j, j < cd.length → g 7 j = cd.getD j 0) (hn : kx_nv cd ≤ 25) : ∃ f', kv_ev E (d + 2) 41 [.ref 6, .int a, .int b, .int c] (kv_wd g w) (some (.int (kx_hd (kx_ex a b c cd [])))) (kv_wd (kv_uf g 8 f') w) := by
  obtain ⟨v0, hf, he, rfl, f', rfl⟩ := kx_evP (E := E) (d := d + 1) (y := 41) (h := kv_wd g w) (as := [.ref 6, .int a, .int b, .int c]) (P := fun v0 h => v0 = (some (.int (kx_hd (kx_ex a b c cd []))) : Option Value) ∧ ∃ f', h = kv_wd (kv_uf g 8 f') w) (by decide) (Nat.le_of_ble_eq_true rfl) (by
    refine kx_st 4 (pc' := 6) (L' := [some (.ref 6), some (.int a), some (.int b), some (.int c), some (.int (nI ([] : List Int32).length)), some (.int (nI 0)), none]) (st' := []) (h' := kv_wd g w) rfl ?_
    have hh := lp_worked6 (E := E) (d := d) (g := g) (w := w) a b c cd.length l50 hl (P := fun v0 h => v0 = (some (.int (kx_hd (kx_ex a b c cd []))) : Option Value) ∧ ∃ f', h = kv_wd (kv_uf g 8 f') w) cd 0 [] (g 8) none (by omega) (fun j hj => by rw [Nat.zero_add]; exact hg j hj) (fun k hk => by simp at hk) (by simp; exact hn) (fun f' => ⟨rfl, f', rfl⟩)
    rw [kv_uf_id] at hh
    exact hh)
  exact ⟨f', he⟩
set_option maxRecDepth 100000 in
theorem kx_Lx_t0 {cd : List Int32} {len : Int32} {sg : Nat → Int32} (l50 : cd.length ≤ 50) (h1 : 0 < cd.length) (hl0 : len = nI cd.length) (hg0 : ∀ j, j < cd.length → sg j = cd.getD j 0) (hn : kx_nv cd ≤ 25) : kx_Lx 0 (fun a b c => kx_cl 99 (kx_hd (kx_ex a b c cd []))) len sg := by
  intro E d g w a b c hu hl hsg
  have hu : g 6 0 = 0 := hu
  have hl : g 6 2 = nI cd.length := (show g 6 2 = len from hl).trans hl0
  have hg : ∀ j, j < cd.length → g 7 j = cd.getD j 0 := fun j hj => (show g 7 j = sg j from hsg j (by omega)).trans (hg0 j hj)
  obtain ⟨v0, hf, he, rfl, f', rfl⟩ := kx_evP (E := E) (d := d + 4) (y := 39) (h := kv_wd g w) (as := [.ref 6, .int a, .int b, .int c]) (P := fun v0 h => v0 = (some (.int (kx_cl 99 (kx_hd (kx_ex a b c cd [])))) : Option Value) ∧ ∃ f', h = kv_wd (kv_uf g 8 f') w) (by decide) (Nat.le_of_ble_eq_true rfl) (by
    refine kx_st 0 (pc' := 0) (L' := [some (.ref 6), some (.int a), some (.int b), some (.int c), none]) (st' := []) (h' := kv_wd g w) rfl ?_
    refine kx_st 2 (pc' := 4) (L' := [some (.ref 6), some (.int a), some (.int b), some (.int c), none]) (st' := [.int (g 6 0)]) (h' := kv_wd g w) rfl ?_
    refine kx_bc (t := 12) rfl rfl (fun (h4 : ¬ g 6 0 = 0) => ?_) (fun (h4 : ¬ (¬ g 6 0 = 0)) => ?_)
    · exact absurd hu h4
    · refine kx_st 0 (pc' := 7) (L' := [some (.ref 6), some (.int a), some (.int b), some (.int c), none]) (st' := []) (h' := kv_wd g w) rfl ?_
      refine kx_st 7 (pc' := 22) (L' := [some (.ref 6), some (.int a), some (.int b), some (.int c), some (.int 99)]) (st' := [.int (g 6 2), .int 99, .int 0]) (h' := kv_wd g w) rfl ?_
      refine kx_bc (t := 33) rfl rfl (fun (h22 : ¬ g 6 2 = 0) => ?_) (fun (h22 : ¬ (¬ g 6 2 = 0)) => ?_)
      · refine kx_st 4 (pc' := 37) (L' := [some (.ref 6), some (.int a), some (.int b), some (.int c), some (.int 99)]) (st' := [.int c, .int b, .int a, .ref 6, .int 99, .int 0]) (h' := kv_wd g w) rfl ?_
        obtain ⟨f37, e37⟩ := ev_worked6 (E := E) (d := d + 2) (g := g) (w := w) a b c cd l50 hl hg hn
        refine kx_call (z := 41) (as := [.ref 6, .int a, .int b, .int c]) (rest := [.int 99, .int 0]) (v := some (.int (kx_hd (kx_ex a b c cd [])))) (h1 := kv_wd (kv_uf g 8 f37) w) rfl e37 ?_
        refine kx_st 0 (pc' := 40) (L' := [some (.ref 6), some (.int a), some (.int b), some (.int c), some (.int 99)]) (st' := [.int (kx_hd (kx_ex a b c cd [])), .int 99, .int 0]) (h' := kv_wd (kv_uf g 8 f37) w) rfl ?_
        refine kx_st 2 (pc' := 46) (L' := [some (.ref 6), some (.int a), some (.int b), some (.int c), some (.int 99)]) (st' := [.int (if 0 < if kx_hd (kx_ex a b c cd []) < 99 then kx_hd (kx_ex a b c cd []) else 99 then if kx_hd (kx_ex a b c cd []) < 99 then kx_hd (kx_ex a b c cd []) else 99 else 0)]) (h' := kv_wd (kv_uf g 8 f37) w) rfl ?_
        refine kx_ret (v := some (.int (if 0 < if kx_hd (kx_ex a b c cd []) < 99 then kx_hd (kx_ex a b c cd []) else 99 then if kx_hd (kx_ex a b c cd []) < 99 then kx_hd (kx_ex a b c cd []) else 99 else 0))) rfl ?_
        exact ⟨congrArg (fun z => some (Value.int z)) (kx_cl_e (v := kx_hd (kx_ex a b c cd [])) (m := 99) (by decide)), f37, rfl⟩
      · exact absurd (Classical.not_not.mp h22) (by rw [hl]; exact nI_ne0 h1 (by omega)))
  exact ⟨f', he⟩
set_option maxRecDepth 100000 in
theorem ev_without0 {E : kv_V} {d : Nat} {g : kv_S} {w : kv_W} (hu : g 6 0 = 0) (a : Int32) : kv_ev E (d + 1) 40 [.ref 6, .int a] (kv_wd g w) (some (.int (a + 1))) (kv_wd g w) := by
  refine kx_ev (d := d + 0) (by decide) (Nat.le_of_ble_eq_true rfl) ?_
  refine kx_st 0 (pc' := 0) (L' := [some (.ref 6), some (.int a)]) (st' := []) (h' := kv_wd g w) rfl ?_
  refine kx_st 2 (pc' := 4) (L' := [some (.ref 6), some (.int a)]) (st' := [.int (g 6 0)]) (h' := kv_wd g w) rfl ?_
  refine kx_bc (t := 13) rfl rfl (fun (h4 : ¬ g 6 0 = 0) => ?_) (fun (h4 : ¬ (¬ g 6 0 = 0)) => ?_)
  · exact absurd hu h4
  · refine kx_st 0 (pc' := 7) (L' := [some (.ref 6), some (.int a)]) (st' := []) (h' := kv_wd g w) rfl ?_
    refine kx_st 4 (pc' := 14) (L' := [some (.ref 6), some (.int a)]) (st' := [.int (a + 1)]) (h' := kv_wd g w) rfl ?_
    refine kx_ret (v := some (.int (a + 1))) rfl ?_
    exact ⟨rfl, rfl⟩
set_option maxRecDepth 100000 in
theorem kx_Lx_n0 {sg : Nat → Int32} : kx_Lx 0 (fun a b c => kx_cl 99 (a + 1)) 0 sg := by
  intro E d g w a b c hu hl hsg
  have hu : g 6 0 = 0 := hu
  have hl : g 6 2 = 0 := hl
  obtain ⟨v0, hf, he, rfl, f', rfl⟩ := kx_evP (E := E) (d := d + 4) (y := 39) (h := kv_wd g w) (as := [.ref 6, .int a, .int b, .int c]) (P := fun v0 h => v0 = (some (.int (kx_cl 99 (a + 1))) : Option Value) ∧ ∃ f', h = kv_wd (kv_uf g 8 f') w) (by decide) (Nat.le_of_ble_eq_true rfl) (by
    refine kx_st 0 (pc' := 0) (L' := [some (.ref 6), some (.int a), some (.int b), some (.int c), none]) (st' := []) (h' := kv_wd g w) rfl ?_
    refine kx_st 2 (pc' := 4) (L' := [some (.ref 6), some (.int a), some (.int b), some (.int c), none]) (st' := [.int (g 6 0)]) (h' := kv_wd g w) rfl ?_
    refine kx_bc (t := 12) rfl rfl (fun (h4 : ¬ g 6 0 = 0) => ?_) (fun (h4 : ¬ (¬ g 6 0 = 0)) => ?_)
    · exact absurd hu h4
    · refine kx_st 0 (pc' := 7) (L' := [some (.ref 6), some (.int a), some (.int b), some (.int c), none]) (st' := []) (h' := kv_wd g w) rfl ?_
      refine kx_st 7 (pc' := 22) (L' := [some (.ref 6), some (.int a), some (.int b), some (.int c), some (.int 99)]) (st' := [.int (g 6 2), .int 99, .int 0]) (h' := kv_wd g w) rfl ?_
      refine kx_bc (t := 33) rfl rfl (fun (h22 : ¬ g 6 2 = 0) => ?_) (fun (h22 : ¬ (¬ g 6 2 = 0)) => ?_)
      · exact absurd hl h22
      · refine kx_st 0 (pc' := 25) (L' := [some (.ref 6), some (.int a), some (.int b), some (.int c), some (.int 99)]) (st' := [.int 99, .int 0]) (h' := kv_wd g w) rfl ?_
        refine kx_st 2 (pc' := 27) (L' := [some (.ref 6), some (.int a), some (.int b), some (.int c), some (.int 99)]) (st' := [.int a, .ref 6, .int 99, .int 0]) (h' := kv_wd g w) rfl ?_
        refine kx_call (z := 40) (as := [.ref 6, .int a]) (rest := [.int 99, .int 0]) (v := some (.int (a + 1))) (h1 := kv_wd g w) rfl (ev_without0 (d := d + 3) hu a) ?_
        refine kx_st 0 (pc' := 30) (L' := [some (.ref 6), some (.int a), some (.int b), some (.int c), some (.int 99)]) (st' := [.int (a + 1), .int 99, .int 0]) (h' := kv_wd g w) rfl ?_
        refine kx_st 3 (pc' := 46) (L' := [some (.ref 6), some (.int a), some (.int b), some (.int c), some (.int 99)]) (st' := [.int (if 0 < if a + 1 < 99 then a + 1 else 99 then if a + 1 < 99 then a + 1 else 99 else 0)]) (h' := kv_wd g w) rfl ?_
        refine kx_ret (v := some (.int (if 0 < if a + 1 < 99 then a + 1 else 99 then if a + 1 < 99 then a + 1 else 99 else 0))) rfl ?_
        exact ⟨congrArg (fun z => some (Value.int z)) (kx_cl_e (v := a + 1) (m := 99) (by decide)), g 8, by rw [kv_uf_id]⟩)
  exact ⟨f', he⟩
set_option maxRecDepth 100000 in
theorem ev_worked9 {E : kv_V} {d : Nat} {g : kv_S} {w : kv_W} (a b c : Int32) (cd : List Int32) (l50 : cd.length ≤ 50) (hl : g 9 2 = nI cd.length) (hg : ∀ j, j < cd.length → g 10 j = cd.getD j 0) (hn : kx_nv cd ≤ 25) : ∃ f', kv_ev E (d + 2) 41 [.ref 9, .int a, .int b, .int c] (kv_wd g w) (some (.int (kx_hd (kx_ex a b c cd [])))) (kv_wd (kv_uf g 11 f') w) := by
  obtain ⟨v0, hf, he, rfl, f', rfl⟩ := kx_evP (E := E) (d := d + 1) (y := 41) (h := kv_wd g w) (as := [.ref 9, .int a, .int b, .int c]) (P := fun v0 h => v0 = (some (.int (kx_hd (kx_ex a b c cd []))) : Option Value) ∧ ∃ f', h = kv_wd (kv_uf g 11 f') w) (by decide) (Nat.le_of_ble_eq_true rfl) (by
    refine kx_st 4 (pc' := 6) (L' := [some (.ref 9), some (.int a), some (.int b), some (.int c), some (.int (nI ([] : List Int32).length)), some (.int (nI 0)), none]) (st' := []) (h' := kv_wd g w) rfl ?_
    have hh := lp_worked9 (E := E) (d := d) (g := g) (w := w) a b c cd.length l50 hl (P := fun v0 h => v0 = (some (.int (kx_hd (kx_ex a b c cd []))) : Option Value) ∧ ∃ f', h = kv_wd (kv_uf g 11 f') w) cd 0 [] (g 11) none (by omega) (fun j hj => by rw [Nat.zero_add]; exact hg j hj) (fun k hk => by simp at hk) (by simp; exact hn) (fun f' => ⟨rfl, f', rfl⟩)
    rw [kv_uf_id] at hh
    exact hh)
  exact ⟨f', he⟩
set_option maxRecDepth 100000 in
theorem kx_Lx_t1 {cd : List Int32} {len : Int32} {sg : Nat → Int32} (l50 : cd.length ≤ 50) (h1 : 0 < cd.length) (hl0 : len = nI cd.length) (hg0 : ∀ j, j < cd.length → sg j = cd.getD j 0) (hn : kx_nv cd ≤ 25) : kx_Lx 1 (fun a b c => kx_cl 1 (kx_hd (kx_ex a b c cd []))) len sg := by
  intro E d g w a b c hu hl hsg
  have hu : g 9 0 = 1 := hu
  have hl : g 9 2 = nI cd.length := (show g 9 2 = len from hl).trans hl0
  have hg : ∀ j, j < cd.length → g 10 j = cd.getD j 0 := fun j hj => (show g 10 j = sg j from hsg j (by omega)).trans (hg0 j hj)
  obtain ⟨v0, hf, he, rfl, f', rfl⟩ := kx_evP (E := E) (d := d + 4) (y := 39) (h := kv_wd g w) (as := [.ref 9, .int a, .int b, .int c]) (P := fun v0 h => v0 = (some (.int (kx_cl 1 (kx_hd (kx_ex a b c cd [])))) : Option Value) ∧ ∃ f', h = kv_wd (kv_uf g 11 f') w) (by decide) (Nat.le_of_ble_eq_true rfl) (by
    refine kx_st 0 (pc' := 0) (L' := [some (.ref 9), some (.int a), some (.int b), some (.int c), none]) (st' := []) (h' := kv_wd g w) rfl ?_
    refine kx_st 2 (pc' := 4) (L' := [some (.ref 9), some (.int a), some (.int b), some (.int c), none]) (st' := [.int (g 9 0)]) (h' := kv_wd g w) rfl ?_
    refine kx_bc (t := 12) rfl rfl (fun (h4 : ¬ g 9 0 = 0) => ?_) (fun (h4 : ¬ (¬ g 9 0 = 0)) => ?_)
    · refine kx_st 6 (pc' := 22) (L' := [some (.ref 9), some (.int a), some (.int b), some (.int c), some (.int 1)]) (st' := [.int (g 9 2), .int 1, .int 0]) (h' := kv_wd g w) rfl ?_
      refine kx_bc (t := 33) rfl rfl (fun (h22 : ¬ g 9 2 = 0) => ?_) (fun (h22 : ¬ (¬ g 9 2 = 0)) => ?_)
      · refine kx_st 4 (pc' := 37) (L' := [some (.ref 9), some (.int a), some (.int b), some (.int c), some (.int 1)]) (st' := [.int c, .int b, .int a, .ref 9, .int 1, .int 0]) (h' := kv_wd g w) rfl ?_
        obtain ⟨f37, e37⟩ := ev_worked9 (E := E) (d := d + 2) (g := g) (w := w) a b c cd l50 hl hg hn
        refine kx_call (z := 41) (as := [.ref 9, .int a, .int b, .int c]) (rest := [.int 1, .int 0]) (v := some (.int (kx_hd (kx_ex a b c cd [])))) (h1 := kv_wd (kv_uf g 11 f37) w) rfl e37 ?_
        refine kx_st 0 (pc' := 40) (L' := [some (.ref 9), some (.int a), some (.int b), some (.int c), some (.int 1)]) (st' := [.int (kx_hd (kx_ex a b c cd [])), .int 1, .int 0]) (h' := kv_wd (kv_uf g 11 f37) w) rfl ?_
        refine kx_st 2 (pc' := 46) (L' := [some (.ref 9), some (.int a), some (.int b), some (.int c), some (.int 1)]) (st' := [.int (if 0 < if kx_hd (kx_ex a b c cd []) < 1 then kx_hd (kx_ex a b c cd []) else 1 then if kx_hd (kx_ex a b c cd []) < 1 then kx_hd (kx_ex a b c cd []) else 1 else 0)]) (h' := kv_wd (kv_uf g 11 f37) w) rfl ?_
        refine kx_ret (v := some (.int (if 0 < if kx_hd (kx_ex a b c cd []) < 1 then kx_hd (kx_ex a b c cd []) else 1 then if kx_hd (kx_ex a b c cd []) < 1 then kx_hd (kx_ex a b c cd []) else 1 else 0))) rfl ?_
        exact ⟨congrArg (fun z => some (Value.int z)) (kx_cl_e (v := kx_hd (kx_ex a b c cd [])) (m := 1) (by decide)), f37, rfl⟩
      · exact absurd (Classical.not_not.mp h22) (by rw [hl]; exact nI_ne0 h1 (by omega))
    · exact absurd (Classical.not_not.mp h4) (by rw [hu]; decide))
  exact ⟨f', he⟩
set_option maxRecDepth 100000 in
theorem ev_without1 {E : kv_V} {d : Nat} {g : kv_S} {w : kv_W} (hu : g 9 0 = 1) (a : Int32) : kv_ev E (d + 1) 40 [.ref 9, .int a] (kv_wd g w) (some (.int 0)) (kv_wd g w) := by
  refine kx_ev (d := d + 0) (by decide) (Nat.le_of_ble_eq_true rfl) ?_
  refine kx_st 0 (pc' := 0) (L' := [some (.ref 9), some (.int a)]) (st' := []) (h' := kv_wd g w) rfl ?_
  refine kx_st 2 (pc' := 4) (L' := [some (.ref 9), some (.int a)]) (st' := [.int (g 9 0)]) (h' := kv_wd g w) rfl ?_
  refine kx_bc (t := 13) rfl rfl (fun (h4 : ¬ g 9 0 = 0) => ?_) (fun (h4 : ¬ (¬ g 9 0 = 0)) => ?_)
  · refine kx_st 1 (pc' := 14) (L' := [some (.ref 9), some (.int a)]) (st' := [.int 0]) (h' := kv_wd g w) rfl ?_
    refine kx_ret (v := some (.int 0)) rfl ?_
    exact ⟨rfl, rfl⟩
  · exact absurd (Classical.not_not.mp h4) (by rw [hu]; decide)
set_option maxRecDepth 100000 in
theorem kx_Lx_n1 {sg : Nat → Int32} : kx_Lx 1 (fun a b c => 0) 0 sg := by
  intro E d g w a b c hu hl hsg
  have hu : g 9 0 = 1 := hu
  have hl : g 9 2 = 0 := hl
  obtain ⟨v0, hf, he, rfl, f', rfl⟩ := kx_evP (E := E) (d := d + 4) (y := 39) (h := kv_wd g w) (as := [.ref 9, .int a, .int b, .int c]) (P := fun v0 h => v0 = (some (.int (0)) : Option Value) ∧ ∃ f', h = kv_wd (kv_uf g 11 f') w) (by decide) (Nat.le_of_ble_eq_true rfl) (by
    refine kx_st 0 (pc' := 0) (L' := [some (.ref 9), some (.int a), some (.int b), some (.int c), none]) (st' := []) (h' := kv_wd g w) rfl ?_
    refine kx_st 2 (pc' := 4) (L' := [some (.ref 9), some (.int a), some (.int b), some (.int c), none]) (st' := [.int (g 9 0)]) (h' := kv_wd g w) rfl ?_
    refine kx_bc (t := 12) rfl rfl (fun (h4 : ¬ g 9 0 = 0) => ?_) (fun (h4 : ¬ (¬ g 9 0 = 0)) => ?_)
    · refine kx_st 6 (pc' := 22) (L' := [some (.ref 9), some (.int a), some (.int b), some (.int c), some (.int 1)]) (st' := [.int (g 9 2), .int 1, .int 0]) (h' := kv_wd g w) rfl ?_
      refine kx_bc (t := 33) rfl rfl (fun (h22 : ¬ g 9 2 = 0) => ?_) (fun (h22 : ¬ (¬ g 9 2 = 0)) => ?_)
      · exact absurd hl h22
      · refine kx_st 0 (pc' := 25) (L' := [some (.ref 9), some (.int a), some (.int b), some (.int c), some (.int 1)]) (st' := [.int 1, .int 0]) (h' := kv_wd g w) rfl ?_
        refine kx_st 2 (pc' := 27) (L' := [some (.ref 9), some (.int a), some (.int b), some (.int c), some (.int 1)]) (st' := [.int a, .ref 9, .int 1, .int 0]) (h' := kv_wd g w) rfl ?_
        refine kx_call (z := 40) (as := [.ref 9, .int a]) (rest := [.int 1, .int 0]) (v := some (.int 0)) (h1 := kv_wd g w) rfl (ev_without1 (d := d + 3) hu a) ?_
        refine kx_st 0 (pc' := 30) (L' := [some (.ref 9), some (.int a), some (.int b), some (.int c), some (.int 1)]) (st' := [.int 0, .int 1, .int 0]) (h' := kv_wd g w) rfl ?_
        refine kx_st 3 (pc' := 46) (L' := [some (.ref 9), some (.int a), some (.int b), some (.int c), some (.int 1)]) (st' := [.int (if 0 < if 0 < 1 then 0 else 1 then if 0 < 1 then 0 else 1 else 0)]) (h' := kv_wd g w) rfl ?_
        refine kx_ret (v := some (.int (if 0 < if 0 < 1 then 0 else 1 then if 0 < 1 then 0 else 1 else 0))) rfl ?_
        exact ⟨rfl, g 11, by rw [kv_uf_id]⟩
    · exact absurd (Classical.not_not.mp h4) (by rw [hu]; decide))
  exact ⟨f', he⟩
theorem kx_okt {ok : Bool} (h : ¬ ok = false) : ok = true := by cases ok with
  | true => rfl
  | false => exact absurd rfl h
set_option maxRecDepth 100000 in
theorem ev_walks0 {E : kv_V} {d : Nat} {g : kv_S} {w : kv_W} {tx : Nat → Int32} {n a1 : Nat} {ok : Bool} {A B C v : Int32} (n50 : n ≤ 50) (ha1 : a1 ≤ n) (hv : ∀ (E : kv_V) (d : Nat) (g : kv_S) (w : kv_W), kx_RS tx n 0 g 0 0 A B C → ∃ g' : kv_S, kv_ev E (d + (6 * (5 - 0) + 9)) 165 [.ref 65] (kv_wd g w) (some (.int v)) (kv_wd g' w) ∧ kx_RG g g' a1 0 ok) (hsz : g 66 6 = nI n) (htx : ∀ j, j < n → g 66 (168 + 50 * 0 + j) = tx j) : ∃ g' : kv_S, kv_ev E (d + 41) 166 [.ref 65, .int 0, .int A, .int B, .int C] (kv_wd g w) (some (.int v)) (kv_wd g' w) ∧ (∀ b, b ≠ 65 → g' b = g b) ∧ g' 65 8 = nI a1 ∧ g' 65 14 = (if ok = true ∧ a1 = n then 1 else 0) ∧ ∀ k, (k < 7 ∨ 14 < k) → g' 65 k = g 65 k := by
  obtain ⟨v0, hf, he, rfl, g', rfl, hh⟩ := kx_evP (E := E) (d := d + 40) (y := 166) (h := kv_wd g w) (as := [.ref 65, .int 0, .int A, .int B, .int C]) (P := fun v0 h => v0 = (some (.int v) : Option Value) ∧ ∃ g' : kv_S, h = kv_wd g' w ∧ (∀ b, b ≠ 65 → g' b = g b) ∧ g' 65 8 = nI a1 ∧ g' 65 14 = (if ok = true ∧ a1 = n then 1 else 0) ∧ ∀ k, (k < 7 ∨ 14 < k) → g' 65 k = g 65 k) (by decide) (Nat.le_of_ble_eq_true rfl) (by
    refine kx_st 0 (pc' := 0) (L' := [some (.ref 65), some (.int 0), some (.int A), some (.int B), some (.int C), none]) (st' := []) (h' := kv_wd g w) rfl ?_
    refine kx_st 2 (pc' := 2) (L' := [some (.ref 65), some (.int 0), some (.int A), some (.int B), some (.int C), none]) (st' := [.int 0, .ref 65]) (h' := kv_wd g w) rfl ?_
    refine kx_pf (i := 106) (k := 7) (x := 0) rfl rfl (by decide) rfl (Nat.le_of_ble_eq_true rfl) rfl rfl rfl ?_
    refine kx_st 2 (pc' := 7) (L' := [some (.ref 65), some (.int 0), some (.int A), some (.int B), some (.int C), none]) (st' := [.int 0, .ref 65]) (h' := kv_wd (kv_up g 65 7 0) w) rfl ?_
    refine kx_pf (i := 113) (k := 8) (x := 0) rfl rfl (by decide) rfl (Nat.le_of_ble_eq_true rfl) rfl rfl rfl ?_
    refine kx_st 6 (pc' := 19) (L' := [some (.ref 65), some (.int 0), some (.int A), some (.int B), some (.int C), none]) (st' := [.int 6, .ref 66, .ref 65]) (h' := kv_wd (kv_up (kv_up g 65 7 0) 65 8 0) w) rfl ?_
    refine kx_ia (k := 6) rfl rfl (by decide) rfl (by decide) (by decide) ?_
    refine kx_pf (i := 102) (k := 9) (x := ((kv_up (kv_up g 65 7 0) 65 8 0) 66 6)) rfl rfl (by decide) rfl (Nat.le_of_ble_eq_true rfl) rfl rfl rfl ?_
    refine kx_st 2 (pc' := 25) (L' := [some (.ref 65), some (.int 0), some (.int A), some (.int B), some (.int C), none]) (st' := [.int 0, .ref 65]) (h' := kv_wd (kv_up (kv_up (kv_up g 65 7 0) 65 8 0) 65 9 ((kv_up (kv_up g 65 7 0) 65 8 0) 66 6)) w) rfl ?_
    refine kx_pf (i := 140) (k := 10) (x := 0) rfl rfl (by decide) rfl (Nat.le_of_ble_eq_true rfl) rfl rfl rfl ?_
    refine kx_st 2 (pc' := 30) (L' := [some (.ref 65), some (.int 0), some (.int A), some (.int B), some (.int C), none]) (st' := [.int 1, .ref 65]) (h' := kv_wd (kv_up (kv_up (kv_up (kv_up g 65 7 0) 65 8 0) 65 9 ((kv_up (kv_up g 65 7 0) 65 8 0) 66 6)) 65 10 0) w) rfl ?_
    refine kx_pf (i := 109) (k := 14) (x := 1) rfl rfl (by decide) rfl (Nat.le_of_ble_eq_true rfl) rfl rfl rfl ?_
    refine kx_st 2 (pc' := 35) (L' := [some (.ref 65), some (.int 0), some (.int A), some (.int B), some (.int C), none]) (st' := [.int A, .ref 65]) (h' := kv_wd (kv_up (kv_up (kv_up (kv_up (kv_up g 65 7 0) 65 8 0) 65 9 ((kv_up (kv_up g 65 7 0) 65 8 0) 66 6)) 65 10 0) 65 14 1) w) rfl ?_
    refine kx_pf (i := 125) (k := 11) (x := A) rfl rfl (by decide) rfl (Nat.le_of_ble_eq_true rfl) rfl rfl rfl ?_
    refine kx_st 2 (pc' := 40) (L' := [some (.ref 65), some (.int 0), some (.int A), some (.int B), some (.int C), none]) (st' := [.int B, .ref 65]) (h' := kv_wd (kv_up (kv_up (kv_up (kv_up (kv_up (kv_up g 65 7 0) 65 8 0) 65 9 ((kv_up (kv_up g 65 7 0) 65 8 0) 66 6)) 65 10 0) 65 14 1) 65 11 A) w) rfl ?_
    refine kx_pf (i := 128) (k := 12) (x := B) rfl rfl (by decide) rfl (Nat.le_of_ble_eq_true rfl) rfl rfl rfl ?_
    refine kx_st 2 (pc' := 46) (L' := [some (.ref 65), some (.int 0), some (.int A), some (.int B), some (.int C), none]) (st' := [.int C, .ref 65]) (h' := kv_wd (kv_up (kv_up (kv_up (kv_up (kv_up (kv_up (kv_up g 65 7 0) 65 8 0) 65 9 ((kv_up (kv_up g 65 7 0) 65 8 0) 66 6)) 65 10 0) 65 14 1) 65 11 A) 65 12 B) w) rfl ?_
    refine kx_pf (i := 131) (k := 13) (x := C) rfl rfl (by decide) rfl (Nat.le_of_ble_eq_true rfl) rfl rfl rfl ?_
    refine kx_st 1 (pc' := 50) (L' := [some (.ref 65), some (.int 0), some (.int A), some (.int B), some (.int C), none]) (st' := [.ref 65]) (h' := kv_wd (kv_up (kv_up (kv_up (kv_up (kv_up (kv_up (kv_up (kv_up g 65 7 0) 65 8 0) 65 9 ((kv_up (kv_up g 65 7 0) 65 8 0) 66 6)) 65 10 0) 65 14 1) 65 11 A) 65 12 B) 65 13 C) w) rfl ?_
    have hs : kx_RS tx n 0 (kv_up (kv_up (kv_up (kv_up (kv_up (kv_up (kv_up (kv_up g 65 7 0) 65 8 0) 65 9 ((kv_up (kv_up g 65 7 0) 65 8 0) 66 6)) 65 10 0) 65 14 1) 65 11 A) 65 12 B) 65 13 C) 0 0 A B C := ⟨⟨rfl, rfl, hsz, rfl⟩, ⟨rfl, rfl, rfl⟩, rfl, htx⟩
    obtain ⟨g50, e50, r50⟩ := hv E d _ w hs
    have R0 : ∀ b, b ≠ 65 → g50 b = g b := fun b hb => (r50.1 b hb).trans (by rw [kv_up_ne hb, kv_up_ne hb, kv_up_ne hb, kv_up_ne hb, kv_up_ne hb, kv_up_ne hb, kv_up_ne hb, kv_up_ne hb])
    have R1 : ∀ k, (k < 7 ∨ 14 < k) → g50 65 k = g 65 k := fun k hk => (r50.2.2.2.2 k (by omega) (by omega) (by omega)).trans (by show upd (upd (upd (upd (upd (upd (upd (upd (g 65) 7 _) 8 _) 9 _) 10 _) 14 _) 11 _) 12 _) 13 _ k = _; rw [kx_upn (by omega), kx_upn (by omega), kx_upn (by omega), kx_upn (by omega), kx_upn (by omega), kx_upn (by omega), kx_upn (by omega), kx_upn (by omega)])
    have R9 : g50 65 9 = nI n := (r50.2.2.2.2 9 (by omega) (by omega) (by omega)).trans hsz
    refine kx_call (z := 165) (as := [.ref 65]) (rest := []) (v := some (.int v)) (h1 := kv_wd g50 w) rfl (kx_ev_le (by omega) e50) ?_
    refine kx_st 0 (pc' := 53) (L' := [some (.ref 65), some (.int 0), some (.int A), some (.int B), some (.int C), none]) (st' := [.int v]) (h' := kv_wd g50 w) rfl ?_
    refine kx_st 4 (pc' := 60) (L' := [some (.ref 65), some (.int 0), some (.int A), some (.int B), some (.int C), some (.int v)]) (st' := [.int (g50 65 14), .ref 65]) (h' := kv_wd g50 w) rfl ?_
    refine kx_bc (t := 78) rfl rfl (fun (h60 : g50 65 14 = 0) => ?_) (fun (h60 : ¬ (g50 65 14 = 0)) => ?_)
    · refine kx_st 1 (pc' := 79) (L' := [some (.ref 65), some (.int 0), some (.int A), some (.int B), some (.int C), some (.int v)]) (st' := [.int 0, .ref 65]) (h' := kv_wd g50 w) rfl ?_
      refine kx_pf (i := 109) (k := 14) (x := 0) rfl rfl (by decide) rfl (Nat.le_of_ble_eq_true rfl) rfl rfl rfl ?_
      refine kx_st 1 (pc' := 84) (L' := [some (.ref 65), some (.int 0), some (.int A), some (.int B), some (.int C), some (.int v)]) (st' := [.int v]) (h' := kv_wd (kv_up g50 65 14 0) w) rfl ?_
      refine kx_ret (v := some (.int v)) rfl ?_
      refine ⟨rfl, _, rfl, fun b hb => (kv_up_ne hb).trans (R0 b hb), r50.2.1, ?_, fun k hk => (show upd (g50 65) 14 _ k = _ from kx_upn (by omega)).trans (R1 k hk)⟩
      rw [if_neg (show ¬ (ok = true ∧ a1 = n) from fun z => absurd h60 (by rw [r50.2.2.2.1, if_pos z.1]; decide))]
      rfl
    · refine kx_st 0 (pc' := 63) (L' := [some (.ref 65), some (.int 0), some (.int A), some (.int B), some (.int C), some (.int v)]) (st' := [.ref 65]) (h' := kv_wd g50 w) rfl ?_
      refine kx_st 4 (pc' := 71) (L' := [some (.ref 65), some (.int 0), some (.int A), some (.int B), some (.int C), some (.int v)]) (st' := [.int (g50 65 9), .int (g50 65 8), .ref 65]) (h' := kv_wd g50 w) rfl ?_
      refine kx_bi (t := 78) rfl rfl (fun (h71 : ¬ g50 65 8 = g50 65 9) => ?_) (fun (h71 : ¬ (¬ g50 65 8 = g50 65 9)) => ?_)
      · refine kx_st 1 (pc' := 79) (L' := [some (.ref 65), some (.int 0), some (.int A), some (.int B), some (.int C), some (.int v)]) (st' := [.int 0, .ref 65]) (h' := kv_wd g50 w) rfl ?_
        refine kx_pf (i := 109) (k := 14) (x := 0) rfl rfl (by decide) rfl (Nat.le_of_ble_eq_true rfl) rfl rfl rfl ?_
        refine kx_st 1 (pc' := 84) (L' := [some (.ref 65), some (.int 0), some (.int A), some (.int B), some (.int C), some (.int v)]) (st' := [.int v]) (h' := kv_wd (kv_up g50 65 14 0) w) rfl ?_
        refine kx_ret (v := some (.int v)) rfl ?_
        refine ⟨rfl, _, rfl, fun b hb => (kv_up_ne hb).trans (R0 b hb), r50.2.1, ?_, fun k hk => (show upd (g50 65) 14 _ k = _ from kx_upn (by omega)).trans (R1 k hk)⟩
        rw [if_neg (show ¬ (ok = true ∧ a1 = n) from fun z => h71 (by rw [r50.2.1, R9, z.2]))]
        rfl
      · refine kx_st 0 (pc' := 74) (L' := [some (.ref 65), some (.int 0), some (.int A), some (.int B), some (.int C), some (.int v)]) (st' := [.ref 65]) (h' := kv_wd g50 w) rfl ?_
        refine kx_st 2 (pc' := 79) (L' := [some (.ref 65), some (.int 0), some (.int A), some (.int B), some (.int C), some (.int v)]) (st' := [.int 1, .ref 65]) (h' := kv_wd g50 w) rfl ?_
        refine kx_pf (i := 109) (k := 14) (x := 1) rfl rfl (by decide) rfl (Nat.le_of_ble_eq_true rfl) rfl rfl rfl ?_
        refine kx_st 1 (pc' := 84) (L' := [some (.ref 65), some (.int 0), some (.int A), some (.int B), some (.int C), some (.int v)]) (st' := [.int v]) (h' := kv_wd (kv_up g50 65 14 1) w) rfl ?_
        refine kx_ret (v := some (.int v)) rfl ?_
        refine ⟨rfl, _, rfl, fun b hb => (kv_up_ne hb).trans (R0 b hb), r50.2.1, ?_, fun k hk => (show upd (g50 65) 14 _ k = _ from kx_upn (by omega)).trans (R1 k hk)⟩
        rw [if_pos (show ok = true ∧ a1 = n from ⟨kx_okt (fun z => h60 (by rw [r50.2.2.2.1, z]; rfl)), kx_nI_inj (by omega) (by omega) (by rw [← r50.2.1, ← R9]; exact Classical.not_not.mp h71)⟩)]
        rfl)
  exact ⟨g', he, hh⟩
theorem kx_g65 {g g' : kv_S} (h : ∀ b, b ≠ 65 → g' b = g b) : kv_uf g 65 (g' 65) = g' := by
  funext b
  by_cases hb : b = 65
  · subst hb; rw [kv_uf_self]
  · rw [kv_uf_ne hb]; exact (h b hb).symm
set_option maxRecDepth 100000 in
theorem kx_Lm_t0 {tx : Nat → Int32} {n : Nat} {cd : List Int32} {sz : Int32} (n50 : n ≤ 50) (hsz0 : sz = nI n) (hm : kx_PM tx n 0 165 (6 * (5 - 0) + 9) 0 0 true n cd) : kx_Lm 0 (fun a b c => kx_cl 99 (kx_hd (kx_ex a b c cd []))) sz tx := by
  intro E d g w A B C hz hx
  obtain ⟨v, hv1, hv⟩ := hm A B C
  dsimp only
  rw [show kx_cl 99 (kx_hd (kx_ex A B C cd [])) = kx_cl 99 v by rw [hv1 rfl []]; rfl]
  have hsz : g 66 6 = nI n := (show g 66 6 = sz from hz).trans hsz0
  have htx : ∀ j, j < n → g 66 (168 + 50 * 0 + j) = tx j := fun j hj => hx j (by omega)
  obtain ⟨v0, hf, he, rfl, f', hF, rfl⟩ := kx_evP (E := E) (d := d + 99) (y := 167) (h := kv_wd g w) (as := [.ref 65, .int 0, .int A, .int B, .int C]) (P := fun v0 h => v0 = (some (.int (kx_cl 99 v)) : Option Value) ∧ ∃ f', (∀ k, (k < 7 ∨ 14 < k) → f' k = g 65 k) ∧ h = kv_wd (kv_uf g 65 f') w) (by decide) (Nat.le_of_ble_eq_true rfl) (by
    refine kx_st 0 (pc' := 0) (L' := [some (.ref 65), some (.int 0), some (.int A), some (.int B), some (.int C), none]) (st' := []) (h' := kv_wd g w) rfl ?_
    refine kx_st 1 (pc' := 1) (L' := [some (.ref 65), some (.int 0), some (.int A), some (.int B), some (.int C), none]) (st' := [.int 0]) (h' := kv_wd g w) rfl ?_
    refine kx_st 1 (pc' := 4) (L' := [some (.ref 65), some (.int 0), some (.int A), some (.int B), some (.int C), none]) (st' := []) (h' := kv_wd g w) rfl ?_
    refine kx_st 8 (pc' := 20) (L' := [some (.ref 65), some (.int 0), some (.int A), some (.int B), some (.int C), some (.int 99)]) (st' := [.int 6, .ref 66]) (h' := kv_wd g w) rfl ?_
    refine kx_ia (k := 6) rfl rfl (by decide) rfl (by decide) (by decide) ?_
    refine kx_bc (t := 40) rfl rfl (fun (h21 : g 66 6 < 0) => ?_) (fun (h21 : ¬ (g 66 6 < 0)) => ?_)
    · exact absurd h21 (by rw [hsz]; exact nI_pos (by omega))
    · refine kx_st 0 (pc' := 24) (L' := [some (.ref 65), some (.int 0), some (.int A), some (.int B), some (.int C), some (.int 99)]) (st' := []) (h' := kv_wd g w) rfl ?_
      refine kx_st 5 (pc' := 30) (L' := [some (.ref 65), some (.int 0), some (.int A), some (.int B), some (.int C), some (.int 99)]) (st' := [.int C, .int B, .int A, .int 0, .ref 65]) (h' := kv_wd g w) rfl ?_
      obtain ⟨g30, e30, r1, r2, r3, r4⟩ := ev_walks0 (E := E) (d := d) (g := g) (w := w) n50 (Nat.le_refl n) hv hsz htx
      refine kx_call (z := 166) (as := [.ref 65, .int 0, .int A, .int B, .int C]) (rest := []) (v := some (.int v)) (h1 := kv_wd g30 w) rfl (kx_ev_le (by omega) e30) ?_
      refine kx_st 0 (pc' := 33) (L' := [some (.ref 65), some (.int 0), some (.int A), some (.int B), some (.int C), some (.int 99)]) (st' := [.int v]) (h' := kv_wd g30 w) rfl ?_
      refine kx_st 2 (pc' := 36) (L' := [some (.ref 65), some (.int 0), some (.int A), some (.int B), some (.int C), some (.int 99)]) (st' := [.int 99, .int 0, .int v]) (h' := kv_wd g30 w) rfl ?_
      refine kx_call (z := 132) (as := [.int v, .int 0, .int 99]) (rest := []) (v := some (.int (if v < 0 then 0 else if 99 < v then 99 else v))) (h1 := kv_wd g30 w) rfl (kx_ev_le (d := 0 + 1) (by omega) (ev_held (d := 0) v 0 99)) ?_
      refine kx_st 0 (pc' := 39) (L' := [some (.ref 65), some (.int 0), some (.int A), some (.int B), some (.int C), some (.int 99)]) (st' := [.int (if v < 0 then 0 else if 99 < v then 99 else v)]) (h' := kv_wd g30 w) rfl ?_
      refine kx_ret (v := some (.int (if v < 0 then 0 else if 99 < v then 99 else v))) rfl ?_
      refine ⟨rfl, g30 65, fun k hk => r4 k hk, ?_⟩
      rw [kx_g65 r1])
  exact ⟨f', hF, he⟩
set_option maxRecDepth 100000 in
theorem kx_Lm_n0 {tx : Nat → Int32} : kx_Lm 0 (fun a b c => kx_cl 99 (a + 1)) (-1) tx := by
  intro E d g w a b c hz hx
  have hz : g 66 6 = -1 := hz
  obtain ⟨v0, hf, he, rfl, f', hF, rfl⟩ := kx_evP (E := E) (d := d + 99) (y := 167) (h := kv_wd g w) (as := [.ref 65, .int 0, .int a, .int b, .int c]) (P := fun v0 h => v0 = (some (.int (kx_cl 99 (a + 1))) : Option Value) ∧ ∃ f', (∀ k, (k < 7 ∨ 14 < k) → f' k = g 65 k) ∧ h = kv_wd (kv_uf g 65 f') w) (by decide) (Nat.le_of_ble_eq_true rfl) (by
    refine kx_st 0 (pc' := 0) (L' := [some (.ref 65), some (.int 0), some (.int a), some (.int b), some (.int c), none]) (st' := []) (h' := kv_wd g w) rfl ?_
    refine kx_st 1 (pc' := 1) (L' := [some (.ref 65), some (.int 0), some (.int a), some (.int b), some (.int c), none]) (st' := [.int 0]) (h' := kv_wd g w) rfl ?_
    refine kx_st 1 (pc' := 4) (L' := [some (.ref 65), some (.int 0), some (.int a), some (.int b), some (.int c), none]) (st' := []) (h' := kv_wd g w) rfl ?_
    refine kx_st 8 (pc' := 20) (L' := [some (.ref 65), some (.int 0), some (.int a), some (.int b), some (.int c), some (.int 99)]) (st' := [.int 6, .ref 66]) (h' := kv_wd g w) rfl ?_
    refine kx_ia (k := 6) rfl rfl (by decide) rfl (by decide) (by decide) ?_
    refine kx_bc (t := 40) rfl rfl (fun (h21 : g 66 6 < 0) => ?_) (fun (h21 : ¬ (g 66 6 < 0)) => ?_)
    · refine kx_st 1 (pc' := 41) (L' := [some (.ref 65), some (.int 0), some (.int a), some (.int b), some (.int c), some (.int 99)]) (st' := [.int 0]) (h' := kv_wd g w) rfl ?_
      refine kx_st 1 (pc' := 44) (L' := [some (.ref 65), some (.int 0), some (.int a), some (.int b), some (.int c), some (.int 99)]) (st' := []) (h' := kv_wd g w) rfl ?_
      refine kx_st 5 (pc' := 50) (L' := [some (.ref 65), some (.int 0), some (.int a), some (.int b), some (.int c), some (.int 99)]) (st' := [.int 99, .int 0, .int (a + 1)]) (h' := kv_wd g w) rfl ?_
      refine kx_call (z := 132) (as := [.int (a + 1), .int 0, .int 99]) (rest := []) (v := some (.int (if a + 1 < 0 then 0 else if 99 < a + 1 then 99 else a + 1))) (h1 := kv_wd g w) rfl (kx_ev_le (d := 0 + 1) (by omega) (ev_held (d := 0) (a + 1) 0 99)) ?_
      refine kx_st 0 (pc' := 53) (L' := [some (.ref 65), some (.int 0), some (.int a), some (.int b), some (.int c), some (.int 99)]) (st' := [.int (if a + 1 < 0 then 0 else if 99 < a + 1 then 99 else a + 1)]) (h' := kv_wd g w) rfl ?_
      refine kx_st 1 (pc' := 57) (L' := [some (.ref 65), some (.int 0), some (.int a), some (.int b), some (.int c), some (.int 99)]) (st' := [.int (if a + 1 < 0 then 0 else if 99 < a + 1 then 99 else a + 1)]) (h' := kv_wd g w) rfl ?_
      refine kx_ret (v := some (.int (if a + 1 < 0 then 0 else if 99 < a + 1 then 99 else a + 1))) rfl ?_
      exact ⟨rfl, g 65, fun _ _ => rfl, by rw [kv_uf_id]⟩
    · exact absurd (by rw [hz]; decide) h21)
  exact ⟨f', hF, he⟩
theorem kx_L_n0 (sg tx : Nat → Int32) : kx_L 0 0 sg (-1) tx := ⟨_, fun a b c => kx_cl_r (m := 99) (by omega) _, kx_Lx_n0, kx_Lm_n0⟩
theorem kx_L_t0 {tx sg : Nat → Int32} {n : Nat} {cd : List Int32} {len sz : Int32} (n50 : n ≤ 50) (hb : kx_PB n 0 true n cd) (hl : len = nI cd.length) (hg : ∀ j, j < cd.length → sg j = cd.getD j 0) (hsz : sz = nI n) (hm : kx_PM tx n 0 165 (6 * (5 - 0) + 9) 0 0 true n cd) : kx_L 0 len sg sz tx := by
  have q := hb.2 rfl
  have hc : 0 < cd.length := by
    obtain ⟨v, hv, -⟩ := hm 0 0 0
    have z := hv rfl []
    cases cd with
    | nil => cases z
    | cons x l => exact Nat.succ_pos _
  exact ⟨_, fun a b c => kx_cl_r (m := 99) (by omega) _, kx_Lx_t0 (by omega) hc hl hg (by omega), kx_Lm_t0 n50 hsz hm⟩
set_option maxRecDepth 100000 in
theorem ev_walks1 {E : kv_V} {d : Nat} {g : kv_S} {w : kv_W} {tx : Nat → Int32} {n a1 : Nat} {ok : Bool} {A B C v : Int32} (n50 : n ≤ 50) (ha1 : a1 ≤ n) (hv : ∀ (E : kv_V) (d : Nat) (g : kv_S) (w : kv_W), kx_RS tx n 1 g 0 0 A B C → ∃ g' : kv_S, kv_ev E (d + (6 * (5 - 0) + 9)) 165 [.ref 65] (kv_wd g w) (some (.int v)) (kv_wd g' w) ∧ kx_RG g g' a1 0 ok) (hsz : g 66 7 = nI n) (htx : ∀ j, j < n → g 66 (168 + 50 * 1 + j) = tx j) : ∃ g' : kv_S, kv_ev E (d + 41) 166 [.ref 65, .int 1, .int A, .int B, .int C] (kv_wd g w) (some (.int v)) (kv_wd g' w) ∧ (∀ b, b ≠ 65 → g' b = g b) ∧ g' 65 8 = nI a1 ∧ g' 65 14 = (if ok = true ∧ a1 = n then 1 else 0) ∧ ∀ k, (k < 7 ∨ 14 < k) → g' 65 k = g 65 k := by
  obtain ⟨v0, hf, he, rfl, g', rfl, hh⟩ := kx_evP (E := E) (d := d + 40) (y := 166) (h := kv_wd g w) (as := [.ref 65, .int 1, .int A, .int B, .int C]) (P := fun v0 h => v0 = (some (.int v) : Option Value) ∧ ∃ g' : kv_S, h = kv_wd g' w ∧ (∀ b, b ≠ 65 → g' b = g b) ∧ g' 65 8 = nI a1 ∧ g' 65 14 = (if ok = true ∧ a1 = n then 1 else 0) ∧ ∀ k, (k < 7 ∨ 14 < k) → g' 65 k = g 65 k) (by decide) (Nat.le_of_ble_eq_true rfl) (by
    refine kx_st 0 (pc' := 0) (L' := [some (.ref 65), some (.int 1), some (.int A), some (.int B), some (.int C), none]) (st' := []) (h' := kv_wd g w) rfl ?_
    refine kx_st 2 (pc' := 2) (L' := [some (.ref 65), some (.int 1), some (.int A), some (.int B), some (.int C), none]) (st' := [.int 1, .ref 65]) (h' := kv_wd g w) rfl ?_
    refine kx_pf (i := 106) (k := 7) (x := 1) rfl rfl (by decide) rfl (Nat.le_of_ble_eq_true rfl) rfl rfl rfl ?_
    refine kx_st 2 (pc' := 7) (L' := [some (.ref 65), some (.int 1), some (.int A), some (.int B), some (.int C), none]) (st' := [.int 0, .ref 65]) (h' := kv_wd (kv_up g 65 7 1) w) rfl ?_
    refine kx_pf (i := 113) (k := 8) (x := 0) rfl rfl (by decide) rfl (Nat.le_of_ble_eq_true rfl) rfl rfl rfl ?_
    refine kx_st 6 (pc' := 19) (L' := [some (.ref 65), some (.int 1), some (.int A), some (.int B), some (.int C), none]) (st' := [.int 7, .ref 66, .ref 65]) (h' := kv_wd (kv_up (kv_up g 65 7 1) 65 8 0) w) rfl ?_
    refine kx_ia (k := 7) rfl rfl (by decide) rfl (by decide) (by decide) ?_
    refine kx_pf (i := 102) (k := 9) (x := ((kv_up (kv_up g 65 7 1) 65 8 0) 66 7)) rfl rfl (by decide) rfl (Nat.le_of_ble_eq_true rfl) rfl rfl rfl ?_
    refine kx_st 2 (pc' := 25) (L' := [some (.ref 65), some (.int 1), some (.int A), some (.int B), some (.int C), none]) (st' := [.int 0, .ref 65]) (h' := kv_wd (kv_up (kv_up (kv_up g 65 7 1) 65 8 0) 65 9 ((kv_up (kv_up g 65 7 1) 65 8 0) 66 7)) w) rfl ?_
    refine kx_pf (i := 140) (k := 10) (x := 0) rfl rfl (by decide) rfl (Nat.le_of_ble_eq_true rfl) rfl rfl rfl ?_
    refine kx_st 2 (pc' := 30) (L' := [some (.ref 65), some (.int 1), some (.int A), some (.int B), some (.int C), none]) (st' := [.int 1, .ref 65]) (h' := kv_wd (kv_up (kv_up (kv_up (kv_up g 65 7 1) 65 8 0) 65 9 ((kv_up (kv_up g 65 7 1) 65 8 0) 66 7)) 65 10 0) w) rfl ?_
    refine kx_pf (i := 109) (k := 14) (x := 1) rfl rfl (by decide) rfl (Nat.le_of_ble_eq_true rfl) rfl rfl rfl ?_
    refine kx_st 2 (pc' := 35) (L' := [some (.ref 65), some (.int 1), some (.int A), some (.int B), some (.int C), none]) (st' := [.int A, .ref 65]) (h' := kv_wd (kv_up (kv_up (kv_up (kv_up (kv_up g 65 7 1) 65 8 0) 65 9 ((kv_up (kv_up g 65 7 1) 65 8 0) 66 7)) 65 10 0) 65 14 1) w) rfl ?_
    refine kx_pf (i := 125) (k := 11) (x := A) rfl rfl (by decide) rfl (Nat.le_of_ble_eq_true rfl) rfl rfl rfl ?_
    refine kx_st 2 (pc' := 40) (L' := [some (.ref 65), some (.int 1), some (.int A), some (.int B), some (.int C), none]) (st' := [.int B, .ref 65]) (h' := kv_wd (kv_up (kv_up (kv_up (kv_up (kv_up (kv_up g 65 7 1) 65 8 0) 65 9 ((kv_up (kv_up g 65 7 1) 65 8 0) 66 7)) 65 10 0) 65 14 1) 65 11 A) w) rfl ?_
    refine kx_pf (i := 128) (k := 12) (x := B) rfl rfl (by decide) rfl (Nat.le_of_ble_eq_true rfl) rfl rfl rfl ?_
    refine kx_st 2 (pc' := 46) (L' := [some (.ref 65), some (.int 1), some (.int A), some (.int B), some (.int C), none]) (st' := [.int C, .ref 65]) (h' := kv_wd (kv_up (kv_up (kv_up (kv_up (kv_up (kv_up (kv_up g 65 7 1) 65 8 0) 65 9 ((kv_up (kv_up g 65 7 1) 65 8 0) 66 7)) 65 10 0) 65 14 1) 65 11 A) 65 12 B) w) rfl ?_
    refine kx_pf (i := 131) (k := 13) (x := C) rfl rfl (by decide) rfl (Nat.le_of_ble_eq_true rfl) rfl rfl rfl ?_
    refine kx_st 1 (pc' := 50) (L' := [some (.ref 65), some (.int 1), some (.int A), some (.int B), some (.int C), none]) (st' := [.ref 65]) (h' := kv_wd (kv_up (kv_up (kv_up (kv_up (kv_up (kv_up (kv_up (kv_up g 65 7 1) 65 8 0) 65 9 ((kv_up (kv_up g 65 7 1) 65 8 0) 66 7)) 65 10 0) 65 14 1) 65 11 A) 65 12 B) 65 13 C) w) rfl ?_
    have hs : kx_RS tx n 1 (kv_up (kv_up (kv_up (kv_up (kv_up (kv_up (kv_up (kv_up g 65 7 1) 65 8 0) 65 9 ((kv_up (kv_up g 65 7 1) 65 8 0) 66 7)) 65 10 0) 65 14 1) 65 11 A) 65 12 B) 65 13 C) 0 0 A B C := ⟨⟨rfl, rfl, hsz, rfl⟩, ⟨rfl, rfl, rfl⟩, rfl, htx⟩
    obtain ⟨g50, e50, r50⟩ := hv E d _ w hs
    have R0 : ∀ b, b ≠ 65 → g50 b = g b := fun b hb => (r50.1 b hb).trans (by rw [kv_up_ne hb, kv_up_ne hb, kv_up_ne hb, kv_up_ne hb, kv_up_ne hb, kv_up_ne hb, kv_up_ne hb, kv_up_ne hb])
    have R1 : ∀ k, (k < 7 ∨ 14 < k) → g50 65 k = g 65 k := fun k hk => (r50.2.2.2.2 k (by omega) (by omega) (by omega)).trans (by show upd (upd (upd (upd (upd (upd (upd (upd (g 65) 7 _) 8 _) 9 _) 10 _) 14 _) 11 _) 12 _) 13 _ k = _; rw [kx_upn (by omega), kx_upn (by omega), kx_upn (by omega), kx_upn (by omega), kx_upn (by omega), kx_upn (by omega), kx_upn (by omega), kx_upn (by omega)])
    have R9 : g50 65 9 = nI n := (r50.2.2.2.2 9 (by omega) (by omega) (by omega)).trans hsz
    refine kx_call (z := 165) (as := [.ref 65]) (rest := []) (v := some (.int v)) (h1 := kv_wd g50 w) rfl (kx_ev_le (by omega) e50) ?_
    refine kx_st 0 (pc' := 53) (L' := [some (.ref 65), some (.int 1), some (.int A), some (.int B), some (.int C), none]) (st' := [.int v]) (h' := kv_wd g50 w) rfl ?_
    refine kx_st 4 (pc' := 60) (L' := [some (.ref 65), some (.int 1), some (.int A), some (.int B), some (.int C), some (.int v)]) (st' := [.int (g50 65 14), .ref 65]) (h' := kv_wd g50 w) rfl ?_
    refine kx_bc (t := 78) rfl rfl (fun (h60 : g50 65 14 = 0) => ?_) (fun (h60 : ¬ (g50 65 14 = 0)) => ?_)
    · refine kx_st 1 (pc' := 79) (L' := [some (.ref 65), some (.int 1), some (.int A), some (.int B), some (.int C), some (.int v)]) (st' := [.int 0, .ref 65]) (h' := kv_wd g50 w) rfl ?_
      refine kx_pf (i := 109) (k := 14) (x := 0) rfl rfl (by decide) rfl (Nat.le_of_ble_eq_true rfl) rfl rfl rfl ?_
      refine kx_st 1 (pc' := 84) (L' := [some (.ref 65), some (.int 1), some (.int A), some (.int B), some (.int C), some (.int v)]) (st' := [.int v]) (h' := kv_wd (kv_up g50 65 14 0) w) rfl ?_
      refine kx_ret (v := some (.int v)) rfl ?_
      refine ⟨rfl, _, rfl, fun b hb => (kv_up_ne hb).trans (R0 b hb), r50.2.1, ?_, fun k hk => (show upd (g50 65) 14 _ k = _ from kx_upn (by omega)).trans (R1 k hk)⟩
      rw [if_neg (show ¬ (ok = true ∧ a1 = n) from fun z => absurd h60 (by rw [r50.2.2.2.1, if_pos z.1]; decide))]
      rfl
    · refine kx_st 0 (pc' := 63) (L' := [some (.ref 65), some (.int 1), some (.int A), some (.int B), some (.int C), some (.int v)]) (st' := [.ref 65]) (h' := kv_wd g50 w) rfl ?_
      refine kx_st 4 (pc' := 71) (L' := [some (.ref 65), some (.int 1), some (.int A), some (.int B), some (.int C), some (.int v)]) (st' := [.int (g50 65 9), .int (g50 65 8), .ref 65]) (h' := kv_wd g50 w) rfl ?_
      refine kx_bi (t := 78) rfl rfl (fun (h71 : ¬ g50 65 8 = g50 65 9) => ?_) (fun (h71 : ¬ (¬ g50 65 8 = g50 65 9)) => ?_)
      · refine kx_st 1 (pc' := 79) (L' := [some (.ref 65), some (.int 1), some (.int A), some (.int B), some (.int C), some (.int v)]) (st' := [.int 0, .ref 65]) (h' := kv_wd g50 w) rfl ?_
        refine kx_pf (i := 109) (k := 14) (x := 0) rfl rfl (by decide) rfl (Nat.le_of_ble_eq_true rfl) rfl rfl rfl ?_
        refine kx_st 1 (pc' := 84) (L' := [some (.ref 65), some (.int 1), some (.int A), some (.int B), some (.int C), some (.int v)]) (st' := [.int v]) (h' := kv_wd (kv_up g50 65 14 0) w) rfl ?_
        refine kx_ret (v := some (.int v)) rfl ?_
        refine ⟨rfl, _, rfl, fun b hb => (kv_up_ne hb).trans (R0 b hb), r50.2.1, ?_, fun k hk => (show upd (g50 65) 14 _ k = _ from kx_upn (by omega)).trans (R1 k hk)⟩
        rw [if_neg (show ¬ (ok = true ∧ a1 = n) from fun z => h71 (by rw [r50.2.1, R9, z.2]))]
        rfl
      · refine kx_st 0 (pc' := 74) (L' := [some (.ref 65), some (.int 1), some (.int A), some (.int B), some (.int C), some (.int v)]) (st' := [.ref 65]) (h' := kv_wd g50 w) rfl ?_
        refine kx_st 2 (pc' := 79) (L' := [some (.ref 65), some (.int 1), some (.int A), some (.int B), some (.int C), some (.int v)]) (st' := [.int 1, .ref 65]) (h' := kv_wd g50 w) rfl ?_
        refine kx_pf (i := 109) (k := 14) (x := 1) rfl rfl (by decide) rfl (Nat.le_of_ble_eq_true rfl) rfl rfl rfl ?_
        refine kx_st 1 (pc' := 84) (L' := [some (.ref 65), some (.int 1), some (.int A), some (.int B), some (.int C), some (.int v)]) (st' := [.int v]) (h' := kv_wd (kv_up g50 65 14 1) w) rfl ?_
        refine kx_ret (v := some (.int v)) rfl ?_
        refine ⟨rfl, _, rfl, fun b hb => (kv_up_ne hb).trans (R0 b hb), r50.2.1, ?_, fun k hk => (show upd (g50 65) 14 _ k = _ from kx_upn (by omega)).trans (R1 k hk)⟩
        rw [if_pos (show ok = true ∧ a1 = n from ⟨kx_okt (fun z => h60 (by rw [r50.2.2.2.1, z]; rfl)), kx_nI_inj (by omega) (by omega) (by rw [← r50.2.1, ← R9]; exact Classical.not_not.mp h71)⟩)]
        rfl)
  exact ⟨g', he, hh⟩
set_option maxRecDepth 100000 in
theorem kx_Lm_t1 {tx : Nat → Int32} {n : Nat} {cd : List Int32} {sz : Int32} (n50 : n ≤ 50) (hsz0 : sz = nI n) (hm : kx_PM tx n 1 165 (6 * (5 - 0) + 9) 0 0 true n cd) : kx_Lm 1 (fun a b c => kx_cl 1 (kx_hd (kx_ex a b c cd []))) sz tx := by
  intro E d g w A B C hz hx
  obtain ⟨v, hv1, hv⟩ := hm A B C
  dsimp only
  rw [show kx_cl 1 (kx_hd (kx_ex A B C cd [])) = kx_cl 1 v by rw [hv1 rfl []]; rfl]
  have hsz : g 66 7 = nI n := (show g 66 7 = sz from hz).trans hsz0
  have htx : ∀ j, j < n → g 66 (168 + 50 * 1 + j) = tx j := fun j hj => hx j (by omega)
  obtain ⟨v0, hf, he, rfl, f', hF, rfl⟩ := kx_evP (E := E) (d := d + 99) (y := 167) (h := kv_wd g w) (as := [.ref 65, .int 1, .int A, .int B, .int C]) (P := fun v0 h => v0 = (some (.int (kx_cl 1 v)) : Option Value) ∧ ∃ f', (∀ k, (k < 7 ∨ 14 < k) → f' k = g 65 k) ∧ h = kv_wd (kv_uf g 65 f') w) (by decide) (Nat.le_of_ble_eq_true rfl) (by
    refine kx_st 0 (pc' := 0) (L' := [some (.ref 65), some (.int 1), some (.int A), some (.int B), some (.int C), none]) (st' := []) (h' := kv_wd g w) rfl ?_
    refine kx_st 1 (pc' := 1) (L' := [some (.ref 65), some (.int 1), some (.int A), some (.int B), some (.int C), none]) (st' := [.int 1]) (h' := kv_wd g w) rfl ?_
    refine kx_st 1 (pc' := 9) (L' := [some (.ref 65), some (.int 1), some (.int A), some (.int B), some (.int C), none]) (st' := []) (h' := kv_wd g w) rfl ?_
    refine kx_st 7 (pc' := 20) (L' := [some (.ref 65), some (.int 1), some (.int A), some (.int B), some (.int C), some (.int 1)]) (st' := [.int 7, .ref 66]) (h' := kv_wd g w) rfl ?_
    refine kx_ia (k := 7) rfl rfl (by decide) rfl (by decide) (by decide) ?_
    refine kx_bc (t := 40) rfl rfl (fun (h21 : g 66 7 < 0) => ?_) (fun (h21 : ¬ (g 66 7 < 0)) => ?_)
    · exact absurd h21 (by rw [hsz]; exact nI_pos (by omega))
    · refine kx_st 0 (pc' := 24) (L' := [some (.ref 65), some (.int 1), some (.int A), some (.int B), some (.int C), some (.int 1)]) (st' := []) (h' := kv_wd g w) rfl ?_
      refine kx_st 5 (pc' := 30) (L' := [some (.ref 65), some (.int 1), some (.int A), some (.int B), some (.int C), some (.int 1)]) (st' := [.int C, .int B, .int A, .int 1, .ref 65]) (h' := kv_wd g w) rfl ?_
      obtain ⟨g30, e30, r1, r2, r3, r4⟩ := ev_walks1 (E := E) (d := d) (g := g) (w := w) n50 (Nat.le_refl n) hv hsz htx
      refine kx_call (z := 166) (as := [.ref 65, .int 1, .int A, .int B, .int C]) (rest := []) (v := some (.int v)) (h1 := kv_wd g30 w) rfl (kx_ev_le (by omega) e30) ?_
      refine kx_st 0 (pc' := 33) (L' := [some (.ref 65), some (.int 1), some (.int A), some (.int B), some (.int C), some (.int 1)]) (st' := [.int v]) (h' := kv_wd g30 w) rfl ?_
      refine kx_st 2 (pc' := 36) (L' := [some (.ref 65), some (.int 1), some (.int A), some (.int B), some (.int C), some (.int 1)]) (st' := [.int 1, .int 0, .int v]) (h' := kv_wd g30 w) rfl ?_
      refine kx_call (z := 132) (as := [.int v, .int 0, .int 1]) (rest := []) (v := some (.int (if v < 0 then 0 else if 1 < v then 1 else v))) (h1 := kv_wd g30 w) rfl (kx_ev_le (d := 0 + 1) (by omega) (ev_held (d := 0) v 0 1)) ?_
      refine kx_st 0 (pc' := 39) (L' := [some (.ref 65), some (.int 1), some (.int A), some (.int B), some (.int C), some (.int 1)]) (st' := [.int (if v < 0 then 0 else if 1 < v then 1 else v)]) (h' := kv_wd g30 w) rfl ?_
      refine kx_ret (v := some (.int (if v < 0 then 0 else if 1 < v then 1 else v))) rfl ?_
      refine ⟨rfl, g30 65, fun k hk => r4 k hk, ?_⟩
      rw [kx_g65 r1])
  exact ⟨f', hF, he⟩
set_option maxRecDepth 100000 in
theorem kx_Lm_n1 {tx : Nat → Int32} : kx_Lm 1 (fun a b c => 0) (-1) tx := by
  intro E d g w a b c hz hx
  have hz : g 66 7 = -1 := hz
  obtain ⟨v0, hf, he, rfl, f', hF, rfl⟩ := kx_evP (E := E) (d := d + 99) (y := 167) (h := kv_wd g w) (as := [.ref 65, .int 1, .int a, .int b, .int c]) (P := fun v0 h => v0 = (some (.int (0)) : Option Value) ∧ ∃ f', (∀ k, (k < 7 ∨ 14 < k) → f' k = g 65 k) ∧ h = kv_wd (kv_uf g 65 f') w) (by decide) (Nat.le_of_ble_eq_true rfl) (by
    refine kx_st 0 (pc' := 0) (L' := [some (.ref 65), some (.int 1), some (.int a), some (.int b), some (.int c), none]) (st' := []) (h' := kv_wd g w) rfl ?_
    refine kx_st 1 (pc' := 1) (L' := [some (.ref 65), some (.int 1), some (.int a), some (.int b), some (.int c), none]) (st' := [.int 1]) (h' := kv_wd g w) rfl ?_
    refine kx_st 1 (pc' := 9) (L' := [some (.ref 65), some (.int 1), some (.int a), some (.int b), some (.int c), none]) (st' := []) (h' := kv_wd g w) rfl ?_
    refine kx_st 7 (pc' := 20) (L' := [some (.ref 65), some (.int 1), some (.int a), some (.int b), some (.int c), some (.int 1)]) (st' := [.int 7, .ref 66]) (h' := kv_wd g w) rfl ?_
    refine kx_ia (k := 7) rfl rfl (by decide) rfl (by decide) (by decide) ?_
    refine kx_bc (t := 40) rfl rfl (fun (h21 : g 66 7 < 0) => ?_) (fun (h21 : ¬ (g 66 7 < 0)) => ?_)
    · refine kx_st 1 (pc' := 41) (L' := [some (.ref 65), some (.int 1), some (.int a), some (.int b), some (.int c), some (.int 1)]) (st' := [.int 1]) (h' := kv_wd g w) rfl ?_
      refine kx_st 1 (pc' := 56) (L' := [some (.ref 65), some (.int 1), some (.int a), some (.int b), some (.int c), some (.int 1)]) (st' := []) (h' := kv_wd g w) rfl ?_
      refine kx_st 1 (pc' := 57) (L' := [some (.ref 65), some (.int 1), some (.int a), some (.int b), some (.int c), some (.int 1)]) (st' := [.int 0]) (h' := kv_wd g w) rfl ?_
      refine kx_ret (v := some (.int 0)) rfl ?_
      exact ⟨rfl, g 65, fun _ _ => rfl, by rw [kv_uf_id]⟩
    · exact absurd (by rw [hz]; decide) h21)
  exact ⟨f', hF, he⟩
theorem kx_L_n1 (sg tx : Nat → Int32) : kx_L 1 0 sg (-1) tx := ⟨_, fun a b c => ⟨0, by decide, rfl⟩, kx_Lx_n1, kx_Lm_n1⟩
theorem kx_L_t1 {tx sg : Nat → Int32} {n : Nat} {cd : List Int32} {len sz : Int32} (n50 : n ≤ 50) (hb : kx_PB n 0 true n cd) (hl : len = nI cd.length) (hg : ∀ j, j < cd.length → sg j = cd.getD j 0) (hsz : sz = nI n) (hm : kx_PM tx n 1 165 (6 * (5 - 0) + 9) 0 0 true n cd) : kx_L 1 len sg sz tx := by
  have q := hb.2 rfl
  have hc : 0 < cd.length := by
    obtain ⟨v, hv, -⟩ := hm 0 0 0
    have z := hv rfl []
    cases cd with
    | nil => cases z
    | cons x l => exact Nat.succ_pos _
  exact ⟨_, fun a b c => kx_cl_r (m := 1) (by omega) _, kx_Lx_t1 (by omega) hc hl hg (by omega), kx_Lm_t1 n50 hsz hm⟩
