/-! TEXTS: levels of both readers -/
theorem kx_lv_4 {x : Int32} : kx_lv x = 4 ↔ x = 42 ∨ x = 47 ∨ x = 37 := by
  unfold kx_lv
  grind
theorem kx_bn_42 {tx : Nat → Int32} {n a : Nat} (h : ¬ (a < n ∧ kx_lv (tx a) = 4)) : ¬ kx_bt tx n a = 42 := by
  intro z
  unfold kx_bt at z
  by_cases hl : a < n
  · rw [if_pos hl] at z; exact h ⟨hl, by rw [z]; decide⟩
  · rw [if_neg hl] at z; exact absurd z (by decide)
theorem kx_bn_47 {tx : Nat → Int32} {n a : Nat} (h : ¬ (a < n ∧ kx_lv (tx a) = 4)) : ¬ kx_bt tx n a = 47 := by
  intro z
  unfold kx_bt at z
  by_cases hl : a < n
  · rw [if_pos hl] at z; exact h ⟨hl, by rw [z]; decide⟩
  · rw [if_neg hl] at z; exact absurd z (by decide)
theorem kx_bn_37 {tx : Nat → Int32} {n a : Nat} (h : ¬ (a < n ∧ kx_lv (tx a) = 4)) : ¬ kx_bt tx n a = 37 := by
  intro z
  unfold kx_bt at z
  by_cases hl : a < n
  · rw [if_pos hl] at z; exact h ⟨hl, by rw [z]; decide⟩
  · rw [if_neg hl] at z; exact absurd z (by decide)
theorem kx_lv_3 {x : Int32} : kx_lv x = 3 ↔ x = 43 ∨ x = 45 := by
  unfold kx_lv
  grind
theorem kx_bn_43 {tx : Nat → Int32} {n a : Nat} (h : ¬ (a < n ∧ kx_lv (tx a) = 3)) : ¬ kx_bt tx n a = 43 := by
  intro z
  unfold kx_bt at z
  by_cases hl : a < n
  · rw [if_pos hl] at z; exact h ⟨hl, by rw [z]; decide⟩
  · rw [if_neg hl] at z; exact absurd z (by decide)
theorem kx_bn_45 {tx : Nat → Int32} {n a : Nat} (h : ¬ (a < n ∧ kx_lv (tx a) = 3)) : ¬ kx_bt tx n a = 45 := by
  intro z
  unfold kx_bt at z
  by_cases hl : a < n
  · rw [if_pos hl] at z; exact h ⟨hl, by rw [z]; decide⟩
  · rw [if_neg hl] at z; exact absurd z (by decide)
theorem kx_lv_2 {x : Int32} : kx_lv x = 2 ↔ x = 60 ∨ x = 61 ∨ x = 62 := by
  unfold kx_lv
  grind
theorem kx_bn_60 {tx : Nat → Int32} {n a : Nat} (h : ¬ (a < n ∧ kx_lv (tx a) = 2)) : ¬ kx_bt tx n a = 60 := by
  intro z
  unfold kx_bt at z
  by_cases hl : a < n
  · rw [if_pos hl] at z; exact h ⟨hl, by rw [z]; decide⟩
  · rw [if_neg hl] at z; exact absurd z (by decide)
theorem kx_bn_61 {tx : Nat → Int32} {n a : Nat} (h : ¬ (a < n ∧ kx_lv (tx a) = 2)) : ¬ kx_bt tx n a = 61 := by
  intro z
  unfold kx_bt at z
  by_cases hl : a < n
  · rw [if_pos hl] at z; exact h ⟨hl, by rw [z]; decide⟩
  · rw [if_neg hl] at z; exact absurd z (by decide)
theorem kx_bn_62 {tx : Nat → Int32} {n a : Nat} (h : ¬ (a < n ∧ kx_lv (tx a) = 2)) : ¬ kx_bt tx n a = 62 := by
  intro z
  unfold kx_bt at z
  by_cases hl : a < n
  · rw [if_pos hl] at z; exact h ⟨hl, by rw [z]; decide⟩
  · rw [if_neg hl] at z; exact absurd z (by decide)
theorem kx_lv_1 {x : Int32} : kx_lv x = 1 ↔ x = 38 := by
  unfold kx_lv
  grind
theorem kx_bn_38 {tx : Nat → Int32} {n a : Nat} (h : ¬ (a < n ∧ kx_lv (tx a) = 1)) : ¬ kx_bt tx n a = 38 := by
  intro z
  unfold kx_bt at z
  by_cases hl : a < n
  · rw [if_pos hl] at z; exact h ⟨hl, by rw [z]; decide⟩
  · rw [if_neg hl] at z; exact absurd z (by decide)
theorem kx_lv_0 {x : Int32} : kx_lv x = 0 ↔ x = 124 := by
  unfold kx_lv
  grind
theorem kx_bn_124 {tx : Nat → Int32} {n a : Nat} (h : ¬ (a < n ∧ kx_lv (tx a) = 0)) : ¬ kx_bt tx n a = 124 := by
  intro z
  unfold kx_bt at z
  by_cases hl : a < n
  · rw [if_pos hl] at z; exact h ⟨hl, by rw [z]; decide⟩
  · rw [if_neg hl] at z; exact absurd z (by decide)
theorem kx_nv1 {x : Int32} (h : ¬ -3 ≤ x) : kx_nv [x] = 0 := by show (if -3 ≤ x then 1 else 0) + 0 = 0; rw [if_neg h]
theorem kx_ex1 {A B C x v w : Int32} {st : List Int32} (h : ¬ -3 ≤ -x) (h33 : ¬ -x = -33) : kx_ex A B C [-x] (w :: v :: st) = kx_jn x v w :: st := by
  show kx_e1 A B C (-x) (w :: v :: st) = _
  unfold kx_e1
  rw [if_neg h]
  dsimp only
  rw [if_neg h33, show - -x = x by grind]
set_option maxRecDepth 100000 in
theorem kx_pl5 {tx : Nat → Int32} {n u op a : Nat} (h : kx_PQ tx n u op a) : kx_PL tx n u 5 4 160 op a := by
  obtain ⟨ok, a1, cd, hb, hx, hm⟩ := h
  refine ⟨ok, a1, cd, hb, ?_, hm⟩
  intro E d g w ln hE hs hln
  obtain ⟨g4, e4, r4⟩ := hx E d g w ln hE hs hln
  cases ok with
  | true =>
    obtain ⟨v0, hf, he, rfl, g', rfl, hh⟩ := kx_evP (E := E) (d := d + (8 * (5 - op) + 3)) (y := 47) (h := kv_wd g w) (as := [.ref 48, .int 5, .int (nI op)]) (P := fun v0 h => v0 = (some (.int 1) : Option Value) ∧ ∃ g' : kv_S, h = kv_wd g' w ∧ kx_CR g g' a1 true ln cd) (by decide) (Nat.le_of_ble_eq_true rfl) (by
      refine kx_st 0 (pc' := 0) (L' := [some (.ref 48), some (.int 5), some (.int (nI op)), none]) (st' := []) (h' := kv_wd g w) rfl ?_
      refine kx_st 2 (pc' := 2) (L' := [some (.ref 48), some (.int 5), some (.int (nI op)), none]) (st' := [.int 5, .int 5]) (h' := kv_wd g w) rfl ?_
      refine kx_st 1 (pc' := 5) (L' := [some (.ref 48), some (.int 5), some (.int (nI op)), none]) (st' := []) (h' := kv_wd g w) rfl ?_
      refine kx_st 2 (pc' := 7) (L' := [some (.ref 48), some (.int 5), some (.int (nI op)), none]) (st' := [.int (nI op), .ref 48]) (h' := kv_wd g w) rfl ?_
      refine kx_call (z := 49) (as := [.ref 48, .int (nI op)]) (rest := []) (v := some (.int 1)) (h1 := kv_wd g4 w) rfl (kx_ev_le (by omega) e4) ?_
      refine kx_st 0 (pc' := 10) (L' := [some (.ref 48), some (.int 5), some (.int (nI op)), none]) (st' := [.int 1]) (h' := kv_wd g4 w) rfl ?_
      refine kx_ret (v := some (.int 1)) rfl ?_
      exact ⟨rfl, _, rfl, r4⟩)
    exact ⟨g', kx_ev_le (by omega) he, hh⟩
  | false =>
    obtain ⟨v0, hf, he, rfl, g', rfl, hh⟩ := kx_evP (E := E) (d := d + (8 * (5 - op) + 3)) (y := 47) (h := kv_wd g w) (as := [.ref 48, .int 5, .int (nI op)]) (P := fun v0 h => v0 = (some (.int 0) : Option Value) ∧ ∃ g' : kv_S, h = kv_wd g' w ∧ kx_CR g g' a1 false ln cd) (by decide) (Nat.le_of_ble_eq_true rfl) (by
      refine kx_st 0 (pc' := 0) (L' := [some (.ref 48), some (.int 5), some (.int (nI op)), none]) (st' := []) (h' := kv_wd g w) rfl ?_
      refine kx_st 2 (pc' := 2) (L' := [some (.ref 48), some (.int 5), some (.int (nI op)), none]) (st' := [.int 5, .int 5]) (h' := kv_wd g w) rfl ?_
      refine kx_st 1 (pc' := 5) (L' := [some (.ref 48), some (.int 5), some (.int (nI op)), none]) (st' := []) (h' := kv_wd g w) rfl ?_
      refine kx_st 2 (pc' := 7) (L' := [some (.ref 48), some (.int 5), some (.int (nI op)), none]) (st' := [.int (nI op), .ref 48]) (h' := kv_wd g w) rfl ?_
      refine kx_call (z := 49) (as := [.ref 48, .int (nI op)]) (rest := []) (v := some (.int 0)) (h1 := kv_wd g4 w) rfl (kx_ev_le (by omega) e4) ?_
      refine kx_st 0 (pc' := 10) (L' := [some (.ref 48), some (.int 5), some (.int (nI op)), none]) (st' := [.int 0]) (h' := kv_wd g4 w) rfl ?_
      refine kx_ret (v := some (.int 0)) rfl ?_
      exact ⟨rfl, _, rfl, r4⟩)
    exact ⟨g', kx_ev_le (by omega) he, hh⟩
set_option maxRecDepth 100000 in
theorem kx_tl_4 {tx : Nat → Int32} {n u op : Nat} (n50 : n ≤ 50) (u1 : u ≤ 1) (hn : ∀ a, a ≤ n → kx_PL tx n u 5 4 160 op a) : ∀ k a, n - a ≤ k → a ≤ n → ∃ (ok : Bool) (a1 : Nat) (tl : List Int32), ((a ≤ a1 ∧ a1 ≤ n) ∧ (ok = true → tl.length ≤ a1 - a ∧ 2 * kx_nv tl ≤ a1 - a)) ∧ (∀ (E : kv_V) (d : Nat) (g : kv_S) (w : kv_W) (ln : Nat) (x3 : Option Value) (P : Option Value → kv_H → Prop), E 1002 = some (1, 6, kv_NA) → kx_CS tx n u g a ln → ln + (n - a) ≤ 50 → (∀ g', kx_CR g g' a1 ok ln tl → P (some (.int (kx_ob ok))) (kv_wd g' w)) → kx_V E (d + (8 * (5 - op) + 4)) 47 24 [some (.ref 48), some (.int 4), some (.int (nI op)), x3] [] (kv_wd g w) P) ∧ (∀ A B C v : Int32, ∃ v' : Int32, (ok = true → ∀ st, kx_ex A B C tl (v :: st) = v' :: st) ∧ ∀ (E : kv_V) (d : Nat) (g : kv_S) (w : kv_W) (x2 x3 : Option Value) (P : Option Value → kv_H → Prop), kx_RS tx n u g a op A B C → (∀ g', kx_RG g g' a1 op ok → P (some (.int v')) (kv_wd g' w)) → kx_V E (d + (6 * (5 - op) + 4)) 161 5 [some (.ref 65), some (.int v), x2, x3] [] (kv_wd g w) P) := by
  intro k
  induction k with
  | zero =>
    intro a hk0 han
    have hk : ¬ (a < n ∧ kx_lv (tx a) = 4) := fun z => by omega
    refine ⟨true, a, [], ⟨⟨Nat.le_refl _, han⟩, fun _ => ⟨by simp, by show 2 * 0 ≤ _; omega⟩⟩, ?_, ?_⟩
    · intro E d g w ln x3 P hE hs hln hP
      refine kx_st 4 (pc' := 32) (L' := [some (.ref 48), some (.int 4), some (.int (nI op)), x3]) (st' := [.int (g 48 2), .int (g 48 3)]) (h' := kv_wd g w) rfl ?_
      refine kx_bi (t := 103) rfl rfl (fun (h32 : g 48 2 ≤ g 48 3) => ?_) (fun (h32 : ¬ (g 48 2 ≤ g 48 3)) => ?_)
      · refine kx_st 1 (pc' := 104) (L' := [some (.ref 48), some (.int 4), some (.int (nI op)), x3]) (st' := [.int 1]) (h' := kv_wd g w) rfl ?_
        refine kx_ret (v := some (.int 1)) rfl ?_
        exact hP g (kx_CR_0 hs true)
      · refine kx_st 0 (pc' := 35) (L' := [some (.ref 48), some (.int 4), some (.int (nI op)), x3]) (st' := []) (h' := kv_wd g w) rfl ?_
        refine kx_st 4 (pc' := 43) (L' := [some (.ref 48), some (.int 4), some (.int (nI op)), x3]) (st' := [.int (g 48 3), .ref 52]) (h' := kv_wd g w) rfl ?_
        refine kx_ia (k := a) rfl rfl (by decide) hs.2.1 (by have : a < n := (fun z => Classical.not_not.mp (fun y => z (by rw [hs.2.1, hs.1]; exact nI_le (by omega) (by omega)))) h32; omega) (by decide) ?_
        refine kx_call (z := 48) (as := [.int (g 52 a)]) (rest := []) (v := some (.int (kx_lv (g 52 a)))) (h1 := kv_wd g w) rfl (kx_ev_le (d := 0 + 1) (by omega) (ev_levelOf (d := 0) _)) ?_
        refine kx_st 0 (pc' := 47) (L' := [some (.ref 48), some (.int 4), some (.int (nI op)), x3]) (st' := [.int (kx_lv (g 52 a))]) (h' := kv_wd g w) rfl ?_
        refine kx_st 1 (pc' := 48) (L' := [some (.ref 48), some (.int 4), some (.int (nI op)), x3]) (st' := [.int 4, .int (kx_lv (g 52 a))]) (h' := kv_wd g w) rfl ?_
        refine kx_bi (t := 103) rfl rfl (fun (h48 : ¬ kx_lv (g 52 a) = 4) => ?_) (fun (h48 : ¬ (¬ kx_lv (g 52 a) = 4)) => ?_)
        · refine kx_st 1 (pc' := 104) (L' := [some (.ref 48), some (.int 4), some (.int (nI op)), x3]) (st' := [.int 1]) (h' := kv_wd g w) rfl ?_
          refine kx_ret (v := some (.int 1)) rfl ?_
          exact hP g (kx_CR_0 hs true)
        · exact absurd ⟨(fun z => Classical.not_not.mp (fun y => z (by rw [hs.2.1, hs.1]; exact nI_le (by omega) (by omega)))) h32, by rw [← hs.2.2.2.1 a ((fun z => Classical.not_not.mp (fun y => z (by rw [hs.2.1, hs.1]; exact nI_le (by omega) (by omega)))) h32)]; exact Classical.not_not.mp h48⟩ hk
    · intro A B C v
      refine ⟨v, fun _ st => rfl, ?_⟩
      intro E d g w x2 x3 P hs hP
      refine kx_st 2 (pc' := 9) (L' := [some (.ref 65), some (.int v), x2, x3]) (st' := [.int (g 65 14)]) (h' := kv_wd g w) rfl ?_
      refine kx_bc (t := 114) rfl rfl (fun (h9 : g 65 14 = 0) => ?_) (fun (h9 : ¬ (g 65 14 = 0)) => ?_)
      · exact absurd h9 (by rw [hs.2.2.1]; decide)
      · refine kx_st 0 (pc' := 12) (L' := [some (.ref 65), some (.int v), x2, x3]) (st' := []) (h' := kv_wd g w) rfl ?_
        refine kx_st 3 (pc' := 17) (L' := [some (.ref 65), some (.int v), x2, x3]) (st' := [.int (g 65 8), .ref 65]) (h' := kv_wd g w) rfl ?_
        refine kx_call (z := 155) (as := [.ref 65, .int (g 65 8)]) (rest := []) (v := some (.int (kx_bt tx n a))) (h1 := kv_wd g w) rfl (by rw [show g 65 8 = nI a from hs.1.2.1]; exact kx_ev_le (d := 0 + 1) (by omega) (ev_byteAt (d := 0) hs n50 u1 a (by omega))) ?_
        refine kx_st 0 (pc' := 20) (L' := [some (.ref 65), some (.int v), x2, x3]) (st' := [.int (kx_bt tx n a)]) (h' := kv_wd g w) rfl ?_
        refine kx_st 1 (pc' := 22) (L' := [some (.ref 65), some (.int v), x2, x3]) (st' := [.int 42, .int (kx_bt tx n a)]) (h' := kv_wd g w) rfl ?_
        refine kx_bi (t := 51) rfl rfl (fun (h22 : kx_bt tx n a = 42) => ?_) (fun (h22 : ¬ (kx_bt tx n a = 42)) => ?_)
        · exact absurd h22 (kx_bn_42 hk)
        · refine kx_st 0 (pc' := 25) (L' := [some (.ref 65), some (.int v), x2, x3]) (st' := []) (h' := kv_wd g w) rfl ?_
          refine kx_st 3 (pc' := 30) (L' := [some (.ref 65), some (.int v), x2, x3]) (st' := [.int (g 65 8), .ref 65]) (h' := kv_wd g w) rfl ?_
          refine kx_call (z := 155) (as := [.ref 65, .int (g 65 8)]) (rest := []) (v := some (.int (kx_bt tx n a))) (h1 := kv_wd g w) rfl (by rw [show g 65 8 = nI a from hs.1.2.1]; exact kx_ev_le (d := 0 + 1) (by omega) (ev_byteAt (d := 0) hs n50 u1 a (by omega))) ?_
          refine kx_st 0 (pc' := 33) (L' := [some (.ref 65), some (.int v), x2, x3]) (st' := [.int (kx_bt tx n a)]) (h' := kv_wd g w) rfl ?_
          refine kx_st 1 (pc' := 35) (L' := [some (.ref 65), some (.int v), x2, x3]) (st' := [.int 47, .int (kx_bt tx n a)]) (h' := kv_wd g w) rfl ?_
          refine kx_bi (t := 51) rfl rfl (fun (h35 : kx_bt tx n a = 47) => ?_) (fun (h35 : ¬ (kx_bt tx n a = 47)) => ?_)
          · exact absurd h35 (kx_bn_47 hk)
          · refine kx_st 0 (pc' := 38) (L' := [some (.ref 65), some (.int v), x2, x3]) (st' := []) (h' := kv_wd g w) rfl ?_
            refine kx_st 3 (pc' := 43) (L' := [some (.ref 65), some (.int v), x2, x3]) (st' := [.int (g 65 8), .ref 65]) (h' := kv_wd g w) rfl ?_
            refine kx_call (z := 155) (as := [.ref 65, .int (g 65 8)]) (rest := []) (v := some (.int (kx_bt tx n a))) (h1 := kv_wd g w) rfl (by rw [show g 65 8 = nI a from hs.1.2.1]; exact kx_ev_le (d := 0 + 1) (by omega) (ev_byteAt (d := 0) hs n50 u1 a (by omega))) ?_
            refine kx_st 0 (pc' := 46) (L' := [some (.ref 65), some (.int v), x2, x3]) (st' := [.int (kx_bt tx n a)]) (h' := kv_wd g w) rfl ?_
            refine kx_st 1 (pc' := 48) (L' := [some (.ref 65), some (.int v), x2, x3]) (st' := [.int 37, .int (kx_bt tx n a)]) (h' := kv_wd g w) rfl ?_
            refine kx_bi (t := 114) rfl rfl (fun (h48 : ¬ kx_bt tx n a = 37) => ?_) (fun (h48 : ¬ (¬ kx_bt tx n a = 37)) => ?_)
            · refine kx_st 1 (pc' := 115) (L' := [some (.ref 65), some (.int v), x2, x3]) (st' := [.int v]) (h' := kv_wd g w) rfl ?_
              refine kx_ret (v := some (.int v)) rfl ?_
              exact hP g (kx_RG_0 hs)
            · exact absurd (Classical.not_not.mp h48) (kx_bn_37 hk)
  | succ k ih =>
    intro a hk0 han
    by_cases hk : a < n ∧ kx_lv (tx a) = 4
    · obtain ⟨hlt, hlv⟩ := hk
      obtain ⟨ok1, a2, cd1, hb1, hpx, hpm⟩ := hn (a + 1) (by omega)
      have hbb := hb1.1
      have hxx : ¬ -3 ≤ -(tx a) ∧ ¬ -(tx a) = -33 := by
        rcases kx_lv_4.mp hlv with h | h | h
        · rw [h]; decide
        · rw [h]; decide
        · rw [h]; decide
      cases ok1 with
      | true =>
        obtain ⟨ok, a3, tl, hbt0, hxx2, hmm0⟩ := ih a2 (by omega) (by omega)
        have q1 := hb1.2 rfl
        refine ⟨ok, a3, cd1 ++ ([-(tx a)] ++ tl), ⟨⟨by omega, hbt0.1.2⟩, fun z => ?_⟩, ?_, ?_⟩
        · have q2 := hbt0.2 z
          have q3 := hbt0.1
          rw [List.length_append, List.length_append, kx_nv_app, kx_nv_app, kx_nv1 hxx.1, List.length_singleton]
          omega
        · intro E d g w ln x3 P hE hs hln hP
          refine kx_st 4 (pc' := 32) (L' := [some (.ref 48), some (.int 4), some (.int (nI op)), x3]) (st' := [.int (g 48 2), .int (g 48 3)]) (h' := kv_wd g w) rfl ?_
          refine kx_bi (t := 103) rfl rfl (fun (h32 : g 48 2 ≤ g 48 3) => ?_) (fun (h32 : ¬ (g 48 2 ≤ g 48 3)) => ?_)
          · exact absurd h32 (by rw [hs.2.1, hs.1]; exact nI_ge (a := a) (b := n) hlt (by omega))
          · refine kx_st 0 (pc' := 35) (L' := [some (.ref 48), some (.int 4), some (.int (nI op)), x3]) (st' := []) (h' := kv_wd g w) rfl ?_
            refine kx_st 4 (pc' := 43) (L' := [some (.ref 48), some (.int 4), some (.int (nI op)), x3]) (st' := [.int (g 48 3), .ref 52]) (h' := kv_wd g w) rfl ?_
            refine kx_ia (k := a) rfl rfl (by decide) hs.2.1 (by omega) (by decide) ?_
            refine kx_call (z := 48) (as := [.int (g 52 a)]) (rest := []) (v := some (.int (kx_lv (g 52 a)))) (h1 := kv_wd g w) rfl (kx_ev_le (d := 0 + 1) (by omega) (ev_levelOf (d := 0) _)) ?_
            refine kx_st 0 (pc' := 47) (L' := [some (.ref 48), some (.int 4), some (.int (nI op)), x3]) (st' := [.int (kx_lv (g 52 a))]) (h' := kv_wd g w) rfl ?_
            refine kx_st 1 (pc' := 48) (L' := [some (.ref 48), some (.int 4), some (.int (nI op)), x3]) (st' := [.int 4, .int (kx_lv (g 52 a))]) (h' := kv_wd g w) rfl ?_
            refine kx_bi (t := 103) rfl rfl (fun (h48 : ¬ kx_lv (g 52 a) = 4) => ?_) (fun (h48 : ¬ (¬ kx_lv (g 52 a) = 4)) => ?_)
            · exact absurd (by rw [hs.2.2.2.1 a hlt]; exact hlv) h48
            · refine kx_st 0 (pc' := 51) (L' := [some (.ref 48), some (.int 4), some (.int (nI op)), x3]) (st' := []) (h' := kv_wd g w) rfl ?_
              refine kx_st 4 (pc' := 59) (L' := [some (.ref 48), some (.int 4), some (.int (nI op)), x3]) (st' := [.int (g 48 3), .ref 52]) (h' := kv_wd g w) rfl ?_
              refine kx_ia (k := a) rfl rfl (by decide) hs.2.1 (by omega) (by decide) ?_
              refine kx_st 6 (pc' := 68) (L' := [some (.ref 48), some (.int 4), some (.int (nI op)), some (.int (g 52 a))]) (st' := [.int ((g 48 3) + 1), .ref 48]) (h' := kv_wd g w) rfl ?_
              refine kx_pf (i := 28) (k := 3) (x := ((g 48 3) + 1)) rfl rfl (by decide) rfl (Nat.le_of_ble_eq_true rfl) rfl rfl rfl ?_
              refine kx_st 5 (pc' := 76) (L' := [some (.ref 48), some (.int 4), some (.int (nI op)), some (.int (g 52 a))]) (st' := [.int (nI op), .int 5, .ref 48]) (h' := kv_wd (kv_up g 48 3 ((g 48 3) + 1)) w) rfl ?_
              have r1 := (kx_CR_up hs (g 48 3 + 1) (by rw [hs.2.1, nI_succ]))
              obtain ⟨g2, e2, r2⟩ := hpx E d _ w ln hE (kx_CS_u hs r1) (by omega)
              refine kx_call (z := 47) (as := [.ref 48, .int 5, .int (nI op)]) (rest := []) (v := some (.int 1)) (h1 := kv_wd g2 w) rfl e2 ?_
              refine kx_st 0 (pc' := 79) (L' := [some (.ref 48), some (.int 4), some (.int (nI op)), some (.int (g 52 a))]) (st' := [.int 1]) (h' := kv_wd g2 w) rfl ?_
              refine kx_st 1 (pc' := 84) (L' := [some (.ref 48), some (.int 4), some (.int (nI op)), some (.int (g 52 a))]) (st' := []) (h' := kv_wd g2 w) rfl ?_
              refine kx_st 4 (pc' := 90) (L' := [some (.ref 48), some (.int 4), some (.int (nI op)), some (.int (g 52 a))]) (st' := [.int (-(g 52 a)), .ref 49]) (h' := kv_wd g2 w) rfl ?_
              have hs2 := kx_CS_of (kx_CS_u hs r1) r2
              refine kx_call (z := 38) (as := [.ref 49, .int (-(g 52 a))]) (rest := []) (v := none) (h1 := kv_wd (kv_up (kv_up g2 50 (ln + cd1.length) (-(g 52 a))) 49 2 (nI (ln + cd1.length + 1))) w) rfl (kx_ev_le (d := 0 + 1) (by omega) (ev_add (d := 0) (ln + cd1.length) hs2.2.2.2.2 (by have := (hb1.2 rfl).2.1; omega) (-(g 52 a)))) ?_
              refine kx_st 0 (pc' := 93) (L' := [some (.ref 48), some (.int 4), some (.int (nI op)), some (.int (g 52 a))]) (st' := []) (h' := kv_wd (kv_up (kv_up g2 50 (ln + cd1.length) (-(g 52 a))) 49 2 (nI (ln + cd1.length + 1))) w) rfl ?_
              refine kx_st 2 (pc' := 95) (L' := [some (.ref 48), some (.int 4), some (.int (nI op)), some (.int (g 52 a))]) (st' := [.int 2, .int 4]) (h' := kv_wd (kv_up (kv_up g2 50 (ln + cd1.length) (-(g 52 a))) 49 2 (nI (ln + cd1.length + 1))) w) rfl ?_
              refine kx_st 1 (pc' := 100) (L' := [some (.ref 48), some (.int 4), some (.int (nI op)), some (.int (g 52 a))]) (st' := []) (h' := kv_wd (kv_up (kv_up g2 50 (ln + cd1.length) (-(g 52 a))) 49 2 (nI (ln + cd1.length + 1))) w) rfl ?_
              refine kx_st 1 (pc' := 24) (L' := [some (.ref 48), some (.int 4), some (.int (nI op)), some (.int (g 52 a))]) (st' := []) (h' := kv_wd (kv_up (kv_up g2 50 (ln + cd1.length) (-(g 52 a))) 49 2 (nI (ln + cd1.length + 1))) w) rfl ?_
              have z := hxx2 E d (kv_up (kv_up g2 50 (ln + cd1.length) (-(g 52 a))) 49 2 (nI (ln + cd1.length + 1))) w (ln + cd1.length + 1) (some (.int (g 52 a))) P hE (kx_CS_of hs2 (kx_CR_add hs2 _)) (by omega) (fun g' r => hP g' ?_)
              · exact z
              · rw [← hs.2.2.2.1 a hlt]
                exact kx_CR_u r1 (kx_CR_t r2 (kx_CR_t (kx_CR_add hs2 _) r))
        · intro A B C v
          obtain ⟨wv, hw1, hw2⟩ := hpm A B C
          rcases kx_lv_4.mp hlv with hkey | hkey | hkey
          · have hbt : kx_bt tx n a = 42 := by rw [show kx_bt tx n a = tx a from if_pos hlt]; exact hkey
            obtain ⟨v', hv1, hmm⟩ := hmm0 A B C (kx_jn 42 v wv)
            refine ⟨v', fun z st => ?_, ?_⟩
            · rw [kx_ex_app, hw1 rfl (v :: st), kx_ex_app, kx_ex1 hxx.1 hxx.2, hkey]
              exact hv1 z st
            · intro E d g w x2 x3 P hs hP
              refine kx_st 2 (pc' := 9) (L' := [some (.ref 65), some (.int v), x2, x3]) (st' := [.int (g 65 14)]) (h' := kv_wd g w) rfl ?_
              refine kx_bc (t := 114) rfl rfl (fun (h9 : g 65 14 = 0) => ?_) (fun (h9 : ¬ (g 65 14 = 0)) => ?_)
              · exact absurd h9 (by rw [hs.2.2.1]; decide)
              · refine kx_st 0 (pc' := 12) (L' := [some (.ref 65), some (.int v), x2, x3]) (st' := []) (h' := kv_wd g w) rfl ?_
                refine kx_st 3 (pc' := 17) (L' := [some (.ref 65), some (.int v), x2, x3]) (st' := [.int (g 65 8), .ref 65]) (h' := kv_wd g w) rfl ?_
                refine kx_call (z := 155) (as := [.ref 65, .int (g 65 8)]) (rest := []) (v := some (.int 42)) (h1 := kv_wd g w) rfl (by rw [show g 65 8 = nI a from hs.1.2.1]; have z := ev_byteAt (E := E) (d := 0) (w := w) hs n50 u1 a (by omega); rw [hbt] at z; exact kx_ev_le (by omega) z) ?_
                refine kx_st 0 (pc' := 20) (L' := [some (.ref 65), some (.int v), x2, x3]) (st' := [.int 42]) (h' := kv_wd g w) rfl ?_
                refine kx_st 1 (pc' := 22) (L' := [some (.ref 65), some (.int v), x2, x3]) (st' := [.int 42, .int 42]) (h' := kv_wd g w) rfl ?_
                refine kx_st 1 (pc' := 51) (L' := [some (.ref 65), some (.int v), x2, x3]) (st' := []) (h' := kv_wd g w) rfl ?_
                refine kx_st 3 (pc' := 56) (L' := [some (.ref 65), some (.int v), x2, x3]) (st' := [.int (g 65 8), .ref 65]) (h' := kv_wd g w) rfl ?_
                refine kx_call (z := 155) (as := [.ref 65, .int (g 65 8)]) (rest := []) (v := some (.int 42)) (h1 := kv_wd g w) rfl (by rw [show g 65 8 = nI a from hs.1.2.1]; have z := ev_byteAt (E := E) (d := 0) (w := w) hs n50 u1 a (by omega); rw [hbt] at z; exact kx_ev_le (by omega) z) ?_
                refine kx_st 0 (pc' := 59) (L' := [some (.ref 65), some (.int v), x2, x3]) (st' := [.int 42]) (h' := kv_wd g w) rfl ?_
                refine kx_st 6 (pc' := 67) (L' := [some (.ref 65), some (.int v), some (.int 42), x3]) (st' := [.int ((g 65 8) + 1), .ref 65]) (h' := kv_wd g w) rfl ?_
                refine kx_pf (i := 113) (k := 8) (x := ((g 65 8) + 1)) rfl rfl (by decide) rfl (Nat.le_of_ble_eq_true rfl) rfl rfl rfl ?_
                refine kx_st 1 (pc' := 71) (L' := [some (.ref 65), some (.int v), some (.int 42), x3]) (st' := [.ref 65]) (h' := kv_wd (kv_up g 65 8 ((g 65 8) + 1)) w) rfl ?_
                have r1 := kx_RG_up hs (g 65 8 + 1) (by rw [hs.1.2.1, nI_succ])
                obtain ⟨g2, e2, r2⟩ := hw2 E d _ w (kx_RS_of hs r1)
                refine kx_call (z := 160) (as := [.ref 65]) (rest := []) (v := some (.int wv)) (h1 := kv_wd g2 w) rfl e2 ?_
                refine kx_st 0 (pc' := 74) (L' := [some (.ref 65), some (.int v), some (.int 42), x3]) (st' := [.int wv]) (h' := kv_wd g2 w) rfl ?_
                refine kx_st 3 (pc' := 78) (L' := [some (.ref 65), some (.int v), some (.int 42), some (.int wv)]) (st' := [.int 42, .int 42]) (h' := kv_wd g2 w) rfl ?_
                refine kx_st 1 (pc' := 81) (L' := [some (.ref 65), some (.int v), some (.int 42), some (.int wv)]) (st' := []) (h' := kv_wd g2 w) rfl ?_
                refine kx_st 6 (pc' := 5) (L' := [some (.ref 65), some (.int (v * wv)), some (.int 42), some (.int wv)]) (st' := []) (h' := kv_wd g2 w) rfl ?_
                rw [(show v * wv = kx_jn 42 v wv from (show v * wv = v * wv from rfl))]
                exact hmm E d g2 w _ _ P (kx_RS_of (kx_RS_of hs r1) r2) (fun g' r => hP g' (kx_RG_t r1 (kx_RG_t r2 r)))
          · have hbt : kx_bt tx n a = 47 := by rw [show kx_bt tx n a = tx a from if_pos hlt]; exact hkey
            obtain ⟨v', hv1, hmm⟩ := hmm0 A B C (kx_jn 47 v wv)
            refine ⟨v', fun z st => ?_, ?_⟩
            · rw [kx_ex_app, hw1 rfl (v :: st), kx_ex_app, kx_ex1 hxx.1 hxx.2, hkey]
              exact hv1 z st
            · intro E d g w x2 x3 P hs hP
              refine kx_st 2 (pc' := 9) (L' := [some (.ref 65), some (.int v), x2, x3]) (st' := [.int (g 65 14)]) (h' := kv_wd g w) rfl ?_
              refine kx_bc (t := 114) rfl rfl (fun (h9 : g 65 14 = 0) => ?_) (fun (h9 : ¬ (g 65 14 = 0)) => ?_)
              · exact absurd h9 (by rw [hs.2.2.1]; decide)
              · refine kx_st 0 (pc' := 12) (L' := [some (.ref 65), some (.int v), x2, x3]) (st' := []) (h' := kv_wd g w) rfl ?_
                refine kx_st 3 (pc' := 17) (L' := [some (.ref 65), some (.int v), x2, x3]) (st' := [.int (g 65 8), .ref 65]) (h' := kv_wd g w) rfl ?_
                refine kx_call (z := 155) (as := [.ref 65, .int (g 65 8)]) (rest := []) (v := some (.int 47)) (h1 := kv_wd g w) rfl (by rw [show g 65 8 = nI a from hs.1.2.1]; have z := ev_byteAt (E := E) (d := 0) (w := w) hs n50 u1 a (by omega); rw [hbt] at z; exact kx_ev_le (by omega) z) ?_
                refine kx_st 0 (pc' := 20) (L' := [some (.ref 65), some (.int v), x2, x3]) (st' := [.int 47]) (h' := kv_wd g w) rfl ?_
                refine kx_st 1 (pc' := 22) (L' := [some (.ref 65), some (.int v), x2, x3]) (st' := [.int 42, .int 47]) (h' := kv_wd g w) rfl ?_
                refine kx_st 1 (pc' := 25) (L' := [some (.ref 65), some (.int v), x2, x3]) (st' := []) (h' := kv_wd g w) rfl ?_
                refine kx_st 3 (pc' := 30) (L' := [some (.ref 65), some (.int v), x2, x3]) (st' := [.int (g 65 8), .ref 65]) (h' := kv_wd g w) rfl ?_
                refine kx_call (z := 155) (as := [.ref 65, .int (g 65 8)]) (rest := []) (v := some (.int 47)) (h1 := kv_wd g w) rfl (by rw [show g 65 8 = nI a from hs.1.2.1]; have z := ev_byteAt (E := E) (d := 0) (w := w) hs n50 u1 a (by omega); rw [hbt] at z; exact kx_ev_le (by omega) z) ?_
                refine kx_st 0 (pc' := 33) (L' := [some (.ref 65), some (.int v), x2, x3]) (st' := [.int 47]) (h' := kv_wd g w) rfl ?_
                refine kx_st 1 (pc' := 35) (L' := [some (.ref 65), some (.int v), x2, x3]) (st' := [.int 47, .int 47]) (h' := kv_wd g w) rfl ?_
                refine kx_st 1 (pc' := 51) (L' := [some (.ref 65), some (.int v), x2, x3]) (st' := []) (h' := kv_wd g w) rfl ?_
                refine kx_st 3 (pc' := 56) (L' := [some (.ref 65), some (.int v), x2, x3]) (st' := [.int (g 65 8), .ref 65]) (h' := kv_wd g w) rfl ?_
                refine kx_call (z := 155) (as := [.ref 65, .int (g 65 8)]) (rest := []) (v := some (.int 47)) (h1 := kv_wd g w) rfl (by rw [show g 65 8 = nI a from hs.1.2.1]; have z := ev_byteAt (E := E) (d := 0) (w := w) hs n50 u1 a (by omega); rw [hbt] at z; exact kx_ev_le (by omega) z) ?_
                refine kx_st 0 (pc' := 59) (L' := [some (.ref 65), some (.int v), x2, x3]) (st' := [.int 47]) (h' := kv_wd g w) rfl ?_
                refine kx_st 6 (pc' := 67) (L' := [some (.ref 65), some (.int v), some (.int 47), x3]) (st' := [.int ((g 65 8) + 1), .ref 65]) (h' := kv_wd g w) rfl ?_
                refine kx_pf (i := 113) (k := 8) (x := ((g 65 8) + 1)) rfl rfl (by decide) rfl (Nat.le_of_ble_eq_true rfl) rfl rfl rfl ?_
                refine kx_st 1 (pc' := 71) (L' := [some (.ref 65), some (.int v), some (.int 47), x3]) (st' := [.ref 65]) (h' := kv_wd (kv_up g 65 8 ((g 65 8) + 1)) w) rfl ?_
                have r1 := kx_RG_up hs (g 65 8 + 1) (by rw [hs.1.2.1, nI_succ])
                obtain ⟨g2, e2, r2⟩ := hw2 E d _ w (kx_RS_of hs r1)
                refine kx_call (z := 160) (as := [.ref 65]) (rest := []) (v := some (.int wv)) (h1 := kv_wd g2 w) rfl e2 ?_
                refine kx_st 0 (pc' := 74) (L' := [some (.ref 65), some (.int v), some (.int 47), x3]) (st' := [.int wv]) (h' := kv_wd g2 w) rfl ?_
                refine kx_st 3 (pc' := 78) (L' := [some (.ref 65), some (.int v), some (.int 47), some (.int wv)]) (st' := [.int 42, .int 47]) (h' := kv_wd g2 w) rfl ?_
                refine kx_st 1 (pc' := 87) (L' := [some (.ref 65), some (.int v), some (.int 47), some (.int wv)]) (st' := []) (h' := kv_wd g2 w) rfl ?_
                refine kx_st 1 (pc' := 88) (L' := [some (.ref 65), some (.int v), some (.int 47), some (.int wv)]) (st' := [.int wv]) (h' := kv_wd g2 w) rfl ?_
                refine kx_bc (t := 95) rfl rfl (fun (h88 : ¬ wv = 0) => ?_) (fun (h88 : ¬ (¬ wv = 0)) => ?_)
                · refine kx_st 2 (pc' := 98) (L' := [some (.ref 65), some (.int v), some (.int 47), some (.int wv)]) (st' := [.int 47, .int 47]) (h' := kv_wd g2 w) rfl ?_
                  refine kx_st 1 (pc' := 101) (L' := [some (.ref 65), some (.int v), some (.int 47), some (.int wv)]) (st' := []) (h' := kv_wd g2 w) rfl ?_
                  refine kx_st 2 (pc' := 103) (L' := [some (.ref 65), some (.int v), some (.int 47), some (.int wv)]) (st' := [.int wv, .int v]) (h' := kv_wd g2 w) rfl ?_
                  refine kx_dv rfl h88 ?_
                  refine kx_st 3 (pc' := 5) (L' := [some (.ref 65), some (.int (v / wv)), some (.int 47), some (.int wv)]) (st' := []) (h' := kv_wd g2 w) rfl ?_
                  rw [(show v / wv = kx_jn 47 v wv from (show v / wv = if wv = 0 then (0 : Int32) else v / wv from (if_neg h88).symm))]
                  exact hmm E d g2 w _ _ P (kx_RS_of (kx_RS_of hs r1) r2) (fun g' r => hP g' (kx_RG_t r1 (kx_RG_t r2 r)))
                · refine kx_st 0 (pc' := 91) (L' := [some (.ref 65), some (.int v), some (.int 47), some (.int wv)]) (st' := []) (h' := kv_wd g2 w) rfl ?_
                  refine kx_st 4 (pc' := 5) (L' := [some (.ref 65), some (.int 0), some (.int 47), some (.int wv)]) (st' := []) (h' := kv_wd g2 w) rfl ?_
                  rw [(show (0 : Int32) = kx_jn 47 v wv from (show (0 : Int32) = if wv = 0 then (0 : Int32) else v / wv from (if_pos (Classical.not_not.mp h88)).symm))]
                  exact hmm E d g2 w _ _ P (kx_RS_of (kx_RS_of hs r1) r2) (fun g' r => hP g' (kx_RG_t r1 (kx_RG_t r2 r)))
          · have hbt : kx_bt tx n a = 37 := by rw [show kx_bt tx n a = tx a from if_pos hlt]; exact hkey
            obtain ⟨v', hv1, hmm⟩ := hmm0 A B C (kx_jn 37 v wv)
            refine ⟨v', fun z st => ?_, ?_⟩
            · rw [kx_ex_app, hw1 rfl (v :: st), kx_ex_app, kx_ex1 hxx.1 hxx.2, hkey]
              exact hv1 z st
            · intro E d g w x2 x3 P hs hP
              refine kx_st 2 (pc' := 9) (L' := [some (.ref 65), some (.int v), x2, x3]) (st' := [.int (g 65 14)]) (h' := kv_wd g w) rfl ?_
              refine kx_bc (t := 114) rfl rfl (fun (h9 : g 65 14 = 0) => ?_) (fun (h9 : ¬ (g 65 14 = 0)) => ?_)
              · exact absurd h9 (by rw [hs.2.2.1]; decide)
              · refine kx_st 0 (pc' := 12) (L' := [some (.ref 65), some (.int v), x2, x3]) (st' := []) (h' := kv_wd g w) rfl ?_
                refine kx_st 3 (pc' := 17) (L' := [some (.ref 65), some (.int v), x2, x3]) (st' := [.int (g 65 8), .ref 65]) (h' := kv_wd g w) rfl ?_
                refine kx_call (z := 155) (as := [.ref 65, .int (g 65 8)]) (rest := []) (v := some (.int 37)) (h1 := kv_wd g w) rfl (by rw [show g 65 8 = nI a from hs.1.2.1]; have z := ev_byteAt (E := E) (d := 0) (w := w) hs n50 u1 a (by omega); rw [hbt] at z; exact kx_ev_le (by omega) z) ?_
                refine kx_st 0 (pc' := 20) (L' := [some (.ref 65), some (.int v), x2, x3]) (st' := [.int 37]) (h' := kv_wd g w) rfl ?_
                refine kx_st 1 (pc' := 22) (L' := [some (.ref 65), some (.int v), x2, x3]) (st' := [.int 42, .int 37]) (h' := kv_wd g w) rfl ?_
                refine kx_st 1 (pc' := 25) (L' := [some (.ref 65), some (.int v), x2, x3]) (st' := []) (h' := kv_wd g w) rfl ?_
                refine kx_st 3 (pc' := 30) (L' := [some (.ref 65), some (.int v), x2, x3]) (st' := [.int (g 65 8), .ref 65]) (h' := kv_wd g w) rfl ?_
                refine kx_call (z := 155) (as := [.ref 65, .int (g 65 8)]) (rest := []) (v := some (.int 37)) (h1 := kv_wd g w) rfl (by rw [show g 65 8 = nI a from hs.1.2.1]; have z := ev_byteAt (E := E) (d := 0) (w := w) hs n50 u1 a (by omega); rw [hbt] at z; exact kx_ev_le (by omega) z) ?_
                refine kx_st 0 (pc' := 33) (L' := [some (.ref 65), some (.int v), x2, x3]) (st' := [.int 37]) (h' := kv_wd g w) rfl ?_
                refine kx_st 1 (pc' := 35) (L' := [some (.ref 65), some (.int v), x2, x3]) (st' := [.int 47, .int 37]) (h' := kv_wd g w) rfl ?_
                refine kx_st 1 (pc' := 38) (L' := [some (.ref 65), some (.int v), x2, x3]) (st' := []) (h' := kv_wd g w) rfl ?_
                refine kx_st 3 (pc' := 43) (L' := [some (.ref 65), some (.int v), x2, x3]) (st' := [.int (g 65 8), .ref 65]) (h' := kv_wd g w) rfl ?_
                refine kx_call (z := 155) (as := [.ref 65, .int (g 65 8)]) (rest := []) (v := some (.int 37)) (h1 := kv_wd g w) rfl (by rw [show g 65 8 = nI a from hs.1.2.1]; have z := ev_byteAt (E := E) (d := 0) (w := w) hs n50 u1 a (by omega); rw [hbt] at z; exact kx_ev_le (by omega) z) ?_
                refine kx_st 0 (pc' := 46) (L' := [some (.ref 65), some (.int v), x2, x3]) (st' := [.int 37]) (h' := kv_wd g w) rfl ?_
                refine kx_st 1 (pc' := 48) (L' := [some (.ref 65), some (.int v), x2, x3]) (st' := [.int 37, .int 37]) (h' := kv_wd g w) rfl ?_
                refine kx_st 1 (pc' := 51) (L' := [some (.ref 65), some (.int v), x2, x3]) (st' := []) (h' := kv_wd g w) rfl ?_
                refine kx_st 3 (pc' := 56) (L' := [some (.ref 65), some (.int v), x2, x3]) (st' := [.int (g 65 8), .ref 65]) (h' := kv_wd g w) rfl ?_
                refine kx_call (z := 155) (as := [.ref 65, .int (g 65 8)]) (rest := []) (v := some (.int 37)) (h1 := kv_wd g w) rfl (by rw [show g 65 8 = nI a from hs.1.2.1]; have z := ev_byteAt (E := E) (d := 0) (w := w) hs n50 u1 a (by omega); rw [hbt] at z; exact kx_ev_le (by omega) z) ?_
                refine kx_st 0 (pc' := 59) (L' := [some (.ref 65), some (.int v), x2, x3]) (st' := [.int 37]) (h' := kv_wd g w) rfl ?_
                refine kx_st 6 (pc' := 67) (L' := [some (.ref 65), some (.int v), some (.int 37), x3]) (st' := [.int ((g 65 8) + 1), .ref 65]) (h' := kv_wd g w) rfl ?_
                refine kx_pf (i := 113) (k := 8) (x := ((g 65 8) + 1)) rfl rfl (by decide) rfl (Nat.le_of_ble_eq_true rfl) rfl rfl rfl ?_
                refine kx_st 1 (pc' := 71) (L' := [some (.ref 65), some (.int v), some (.int 37), x3]) (st' := [.ref 65]) (h' := kv_wd (kv_up g 65 8 ((g 65 8) + 1)) w) rfl ?_
                have r1 := kx_RG_up hs (g 65 8 + 1) (by rw [hs.1.2.1, nI_succ])
                obtain ⟨g2, e2, r2⟩ := hw2 E d _ w (kx_RS_of hs r1)
                refine kx_call (z := 160) (as := [.ref 65]) (rest := []) (v := some (.int wv)) (h1 := kv_wd g2 w) rfl e2 ?_
                refine kx_st 0 (pc' := 74) (L' := [some (.ref 65), some (.int v), some (.int 37), x3]) (st' := [.int wv]) (h' := kv_wd g2 w) rfl ?_
                refine kx_st 3 (pc' := 78) (L' := [some (.ref 65), some (.int v), some (.int 37), some (.int wv)]) (st' := [.int 42, .int 37]) (h' := kv_wd g2 w) rfl ?_
                refine kx_st 1 (pc' := 87) (L' := [some (.ref 65), some (.int v), some (.int 37), some (.int wv)]) (st' := []) (h' := kv_wd g2 w) rfl ?_
                refine kx_st 1 (pc' := 88) (L' := [some (.ref 65), some (.int v), some (.int 37), some (.int wv)]) (st' := [.int wv]) (h' := kv_wd g2 w) rfl ?_
                refine kx_bc (t := 95) rfl rfl (fun (h88 : ¬ wv = 0) => ?_) (fun (h88 : ¬ (¬ wv = 0)) => ?_)
                · refine kx_st 2 (pc' := 98) (L' := [some (.ref 65), some (.int v), some (.int 37), some (.int wv)]) (st' := [.int 47, .int 37]) (h' := kv_wd g2 w) rfl ?_
                  refine kx_st 1 (pc' := 107) (L' := [some (.ref 65), some (.int v), some (.int 37), some (.int wv)]) (st' := []) (h' := kv_wd g2 w) rfl ?_
                  refine kx_st 2 (pc' := 109) (L' := [some (.ref 65), some (.int v), some (.int 37), some (.int wv)]) (st' := [.int wv, .int v]) (h' := kv_wd g2 w) rfl ?_
                  refine kx_rm rfl h88 ?_
                  refine kx_st 2 (pc' := 5) (L' := [some (.ref 65), some (.int (v % wv)), some (.int 37), some (.int wv)]) (st' := []) (h' := kv_wd g2 w) rfl ?_
                  rw [(show v % wv = kx_jn 37 v wv from (show v % wv = if wv = 0 then (0 : Int32) else v % wv from (if_neg h88).symm))]
                  exact hmm E d g2 w _ _ P (kx_RS_of (kx_RS_of hs r1) r2) (fun g' r => hP g' (kx_RG_t r1 (kx_RG_t r2 r)))
                · refine kx_st 0 (pc' := 91) (L' := [some (.ref 65), some (.int v), some (.int 37), some (.int wv)]) (st' := []) (h' := kv_wd g2 w) rfl ?_
                  refine kx_st 4 (pc' := 5) (L' := [some (.ref 65), some (.int 0), some (.int 37), some (.int wv)]) (st' := []) (h' := kv_wd g2 w) rfl ?_
                  rw [(show (0 : Int32) = kx_jn 37 v wv from (show (0 : Int32) = if wv = 0 then (0 : Int32) else v % wv from (if_pos (Classical.not_not.mp h88)).symm))]
                  exact hmm E d g2 w _ _ P (kx_RS_of (kx_RS_of hs r1) r2) (fun g' r => hP g' (kx_RG_t r1 (kx_RG_t r2 r)))
      | false =>
        refine ⟨false, a2, [], ⟨⟨by omega, hb1.1.2⟩, fun z => nomatch z⟩, ?_, ?_⟩
        · intro E d g w ln x3 P hE hs hln hP
          refine kx_st 4 (pc' := 32) (L' := [some (.ref 48), some (.int 4), some (.int (nI op)), x3]) (st' := [.int (g 48 2), .int (g 48 3)]) (h' := kv_wd g w) rfl ?_
          refine kx_bi (t := 103) rfl rfl (fun (h32 : g 48 2 ≤ g 48 3) => ?_) (fun (h32 : ¬ (g 48 2 ≤ g 48 3)) => ?_)
          · exact absurd h32 (by rw [hs.2.1, hs.1]; exact nI_ge (a := a) (b := n) hlt (by omega))
          · refine kx_st 0 (pc' := 35) (L' := [some (.ref 48), some (.int 4), some (.int (nI op)), x3]) (st' := []) (h' := kv_wd g w) rfl ?_
            refine kx_st 4 (pc' := 43) (L' := [some (.ref 48), some (.int 4), some (.int (nI op)), x3]) (st' := [.int (g 48 3), .ref 52]) (h' := kv_wd g w) rfl ?_
            refine kx_ia (k := a) rfl rfl (by decide) hs.2.1 (by omega) (by decide) ?_
            refine kx_call (z := 48) (as := [.int (g 52 a)]) (rest := []) (v := some (.int (kx_lv (g 52 a)))) (h1 := kv_wd g w) rfl (kx_ev_le (d := 0 + 1) (by omega) (ev_levelOf (d := 0) _)) ?_
            refine kx_st 0 (pc' := 47) (L' := [some (.ref 48), some (.int 4), some (.int (nI op)), x3]) (st' := [.int (kx_lv (g 52 a))]) (h' := kv_wd g w) rfl ?_
            refine kx_st 1 (pc' := 48) (L' := [some (.ref 48), some (.int 4), some (.int (nI op)), x3]) (st' := [.int 4, .int (kx_lv (g 52 a))]) (h' := kv_wd g w) rfl ?_
            refine kx_bi (t := 103) rfl rfl (fun (h48 : ¬ kx_lv (g 52 a) = 4) => ?_) (fun (h48 : ¬ (¬ kx_lv (g 52 a) = 4)) => ?_)
            · exact absurd (by rw [hs.2.2.2.1 a hlt]; exact hlv) h48
            · refine kx_st 0 (pc' := 51) (L' := [some (.ref 48), some (.int 4), some (.int (nI op)), x3]) (st' := []) (h' := kv_wd g w) rfl ?_
              refine kx_st 4 (pc' := 59) (L' := [some (.ref 48), some (.int 4), some (.int (nI op)), x3]) (st' := [.int (g 48 3), .ref 52]) (h' := kv_wd g w) rfl ?_
              refine kx_ia (k := a) rfl rfl (by decide) hs.2.1 (by omega) (by decide) ?_
              refine kx_st 6 (pc' := 68) (L' := [some (.ref 48), some (.int 4), some (.int (nI op)), some (.int (g 52 a))]) (st' := [.int ((g 48 3) + 1), .ref 48]) (h' := kv_wd g w) rfl ?_
              refine kx_pf (i := 28) (k := 3) (x := ((g 48 3) + 1)) rfl rfl (by decide) rfl (Nat.le_of_ble_eq_true rfl) rfl rfl rfl ?_
              refine kx_st 5 (pc' := 76) (L' := [some (.ref 48), some (.int 4), some (.int (nI op)), some (.int (g 52 a))]) (st' := [.int (nI op), .int 5, .ref 48]) (h' := kv_wd (kv_up g 48 3 ((g 48 3) + 1)) w) rfl ?_
              have r1 := (kx_CR_up hs (g 48 3 + 1) (by rw [hs.2.1, nI_succ]))
              obtain ⟨g2, e2, r2⟩ := hpx E d _ w ln hE (kx_CS_u hs r1) (by omega)
              refine kx_call (z := 47) (as := [.ref 48, .int 5, .int (nI op)]) (rest := []) (v := some (.int 0)) (h1 := kv_wd g2 w) rfl e2 ?_
              refine kx_st 0 (pc' := 79) (L' := [some (.ref 48), some (.int 4), some (.int (nI op)), some (.int (g 52 a))]) (st' := [.int 0]) (h' := kv_wd g2 w) rfl ?_
              refine kx_st 1 (pc' := 82) (L' := [some (.ref 48), some (.int 4), some (.int (nI op)), some (.int (g 52 a))]) (st' := []) (h' := kv_wd g2 w) rfl ?_
              refine kx_st 1 (pc' := 83) (L' := [some (.ref 48), some (.int 4), some (.int (nI op)), some (.int (g 52 a))]) (st' := [.int 0]) (h' := kv_wd g2 w) rfl ?_
              refine kx_ret (v := some (.int 0)) rfl ?_
              exact hP g2 (kx_CR_f r1 r2)
        · intro A B C v
          obtain ⟨wv, hw1, hw2⟩ := hpm A B C
          rcases kx_lv_4.mp hlv with hkey | hkey | hkey
          · have hbt : kx_bt tx n a = 42 := by rw [show kx_bt tx n a = tx a from if_pos hlt]; exact hkey
            refine ⟨kx_jn 42 v wv, (fun z => nomatch z), ?_⟩
            intro E d g w x2 x3 P hs hP
            refine kx_st 2 (pc' := 9) (L' := [some (.ref 65), some (.int v), x2, x3]) (st' := [.int (g 65 14)]) (h' := kv_wd g w) rfl ?_
            refine kx_bc (t := 114) rfl rfl (fun (h9 : g 65 14 = 0) => ?_) (fun (h9 : ¬ (g 65 14 = 0)) => ?_)
            · exact absurd h9 (by rw [hs.2.2.1]; decide)
            · refine kx_st 0 (pc' := 12) (L' := [some (.ref 65), some (.int v), x2, x3]) (st' := []) (h' := kv_wd g w) rfl ?_
              refine kx_st 3 (pc' := 17) (L' := [some (.ref 65), some (.int v), x2, x3]) (st' := [.int (g 65 8), .ref 65]) (h' := kv_wd g w) rfl ?_
              refine kx_call (z := 155) (as := [.ref 65, .int (g 65 8)]) (rest := []) (v := some (.int 42)) (h1 := kv_wd g w) rfl (by rw [show g 65 8 = nI a from hs.1.2.1]; have z := ev_byteAt (E := E) (d := 0) (w := w) hs n50 u1 a (by omega); rw [hbt] at z; exact kx_ev_le (by omega) z) ?_
              refine kx_st 0 (pc' := 20) (L' := [some (.ref 65), some (.int v), x2, x3]) (st' := [.int 42]) (h' := kv_wd g w) rfl ?_
              refine kx_st 1 (pc' := 22) (L' := [some (.ref 65), some (.int v), x2, x3]) (st' := [.int 42, .int 42]) (h' := kv_wd g w) rfl ?_
              refine kx_st 1 (pc' := 51) (L' := [some (.ref 65), some (.int v), x2, x3]) (st' := []) (h' := kv_wd g w) rfl ?_
              refine kx_st 3 (pc' := 56) (L' := [some (.ref 65), some (.int v), x2, x3]) (st' := [.int (g 65 8), .ref 65]) (h' := kv_wd g w) rfl ?_
              refine kx_call (z := 155) (as := [.ref 65, .int (g 65 8)]) (rest := []) (v := some (.int 42)) (h1 := kv_wd g w) rfl (by rw [show g 65 8 = nI a from hs.1.2.1]; have z := ev_byteAt (E := E) (d := 0) (w := w) hs n50 u1 a (by omega); rw [hbt] at z; exact kx_ev_le (by omega) z) ?_
              refine kx_st 0 (pc' := 59) (L' := [some (.ref 65), some (.int v), x2, x3]) (st' := [.int 42]) (h' := kv_wd g w) rfl ?_
              refine kx_st 6 (pc' := 67) (L' := [some (.ref 65), some (.int v), some (.int 42), x3]) (st' := [.int ((g 65 8) + 1), .ref 65]) (h' := kv_wd g w) rfl ?_
              refine kx_pf (i := 113) (k := 8) (x := ((g 65 8) + 1)) rfl rfl (by decide) rfl (Nat.le_of_ble_eq_true rfl) rfl rfl rfl ?_
              refine kx_st 1 (pc' := 71) (L' := [some (.ref 65), some (.int v), some (.int 42), x3]) (st' := [.ref 65]) (h' := kv_wd (kv_up g 65 8 ((g 65 8) + 1)) w) rfl ?_
              have r1 := kx_RG_up hs (g 65 8 + 1) (by rw [hs.1.2.1, nI_succ])
              obtain ⟨g2, e2, r2⟩ := hw2 E d _ w (kx_RS_of hs r1)
              refine kx_call (z := 160) (as := [.ref 65]) (rest := []) (v := some (.int wv)) (h1 := kv_wd g2 w) rfl e2 ?_
              refine kx_st 0 (pc' := 74) (L' := [some (.ref 65), some (.int v), some (.int 42), x3]) (st' := [.int wv]) (h' := kv_wd g2 w) rfl ?_
              refine kx_st 3 (pc' := 78) (L' := [some (.ref 65), some (.int v), some (.int 42), some (.int wv)]) (st' := [.int 42, .int 42]) (h' := kv_wd g2 w) rfl ?_
              refine kx_st 1 (pc' := 81) (L' := [some (.ref 65), some (.int v), some (.int 42), some (.int wv)]) (st' := []) (h' := kv_wd g2 w) rfl ?_
              refine kx_st 6 (pc' := 5) (L' := [some (.ref 65), some (.int (v * wv)), some (.int 42), some (.int wv)]) (st' := []) (h' := kv_wd g2 w) rfl ?_
              rw [(show v * wv = kx_jn 42 v wv from (show v * wv = v * wv from rfl))]
              refine kx_st 2 (pc' := 9) (L' := [some (.ref 65), some (.int (kx_jn 42 v wv)), some (.int 42), some (.int wv)]) (st' := [.int (g2 65 14)]) (h' := kv_wd g2 w) rfl ?_
              refine kx_bc (t := 114) rfl rfl (fun (y9 : g2 65 14 = 0) => ?_) (fun (y9 : ¬ (g2 65 14 = 0)) => ?_)
              · refine kx_st 1 (pc' := 115) (L' := [some (.ref 65), some (.int (kx_jn 42 v wv)), some (.int 42), some (.int wv)]) (st' := [.int (kx_jn 42 v wv)]) (h' := kv_wd g2 w) rfl ?_
                refine kx_ret (v := some (.int (kx_jn 42 v wv))) rfl ?_
                exact hP g2 (kx_RG_t r1 r2)
              · exact absurd (show g2 65 14 = 0 by rw [r2.2.2.2.1]; rfl) y9
          · have hbt : kx_bt tx n a = 47 := by rw [show kx_bt tx n a = tx a from if_pos hlt]; exact hkey
            refine ⟨kx_jn 47 v wv, (fun z => nomatch z), ?_⟩
            intro E d g w x2 x3 P hs hP
            refine kx_st 2 (pc' := 9) (L' := [some (.ref 65), some (.int v), x2, x3]) (st' := [.int (g 65 14)]) (h' := kv_wd g w) rfl ?_
            refine kx_bc (t := 114) rfl rfl (fun (h9 : g 65 14 = 0) => ?_) (fun (h9 : ¬ (g 65 14 = 0)) => ?_)
            · exact absurd h9 (by rw [hs.2.2.1]; decide)
            · refine kx_st 0 (pc' := 12) (L' := [some (.ref 65), some (.int v), x2, x3]) (st' := []) (h' := kv_wd g w) rfl ?_
              refine kx_st 3 (pc' := 17) (L' := [some (.ref 65), some (.int v), x2, x3]) (st' := [.int (g 65 8), .ref 65]) (h' := kv_wd g w) rfl ?_
              refine kx_call (z := 155) (as := [.ref 65, .int (g 65 8)]) (rest := []) (v := some (.int 47)) (h1 := kv_wd g w) rfl (by rw [show g 65 8 = nI a from hs.1.2.1]; have z := ev_byteAt (E := E) (d := 0) (w := w) hs n50 u1 a (by omega); rw [hbt] at z; exact kx_ev_le (by omega) z) ?_
              refine kx_st 0 (pc' := 20) (L' := [some (.ref 65), some (.int v), x2, x3]) (st' := [.int 47]) (h' := kv_wd g w) rfl ?_
              refine kx_st 1 (pc' := 22) (L' := [some (.ref 65), some (.int v), x2, x3]) (st' := [.int 42, .int 47]) (h' := kv_wd g w) rfl ?_
              refine kx_st 1 (pc' := 25) (L' := [some (.ref 65), some (.int v), x2, x3]) (st' := []) (h' := kv_wd g w) rfl ?_
              refine kx_st 3 (pc' := 30) (L' := [some (.ref 65), some (.int v), x2, x3]) (st' := [.int (g 65 8), .ref 65]) (h' := kv_wd g w) rfl ?_
              refine kx_call (z := 155) (as := [.ref 65, .int (g 65 8)]) (rest := []) (v := some (.int 47)) (h1 := kv_wd g w) rfl (by rw [show g 65 8 = nI a from hs.1.2.1]; have z := ev_byteAt (E := E) (d := 0) (w := w) hs n50 u1 a (by omega); rw [hbt] at z; exact kx_ev_le (by omega) z) ?_
              refine kx_st 0 (pc' := 33) (L' := [some (.ref 65), some (.int v), x2, x3]) (st' := [.int 47]) (h' := kv_wd g w) rfl ?_
              refine kx_st 1 (pc' := 35) (L' := [some (.ref 65), some (.int v), x2, x3]) (st' := [.int 47, .int 47]) (h' := kv_wd g w) rfl ?_
              refine kx_st 1 (pc' := 51) (L' := [some (.ref 65), some (.int v), x2, x3]) (st' := []) (h' := kv_wd g w) rfl ?_
              refine kx_st 3 (pc' := 56) (L' := [some (.ref 65), some (.int v), x2, x3]) (st' := [.int (g 65 8), .ref 65]) (h' := kv_wd g w) rfl ?_
              refine kx_call (z := 155) (as := [.ref 65, .int (g 65 8)]) (rest := []) (v := some (.int 47)) (h1 := kv_wd g w) rfl (by rw [show g 65 8 = nI a from hs.1.2.1]; have z := ev_byteAt (E := E) (d := 0) (w := w) hs n50 u1 a (by omega); rw [hbt] at z; exact kx_ev_le (by omega) z) ?_
              refine kx_st 0 (pc' := 59) (L' := [some (.ref 65), some (.int v), x2, x3]) (st' := [.int 47]) (h' := kv_wd g w) rfl ?_
              refine kx_st 6 (pc' := 67) (L' := [some (.ref 65), some (.int v), some (.int 47), x3]) (st' := [.int ((g 65 8) + 1), .ref 65]) (h' := kv_wd g w) rfl ?_
              refine kx_pf (i := 113) (k := 8) (x := ((g 65 8) + 1)) rfl rfl (by decide) rfl (Nat.le_of_ble_eq_true rfl) rfl rfl rfl ?_
              refine kx_st 1 (pc' := 71) (L' := [some (.ref 65), some (.int v), some (.int 47), x3]) (st' := [.ref 65]) (h' := kv_wd (kv_up g 65 8 ((g 65 8) + 1)) w) rfl ?_
              have r1 := kx_RG_up hs (g 65 8 + 1) (by rw [hs.1.2.1, nI_succ])
              obtain ⟨g2, e2, r2⟩ := hw2 E d _ w (kx_RS_of hs r1)
              refine kx_call (z := 160) (as := [.ref 65]) (rest := []) (v := some (.int wv)) (h1 := kv_wd g2 w) rfl e2 ?_
              refine kx_st 0 (pc' := 74) (L' := [some (.ref 65), some (.int v), some (.int 47), x3]) (st' := [.int wv]) (h' := kv_wd g2 w) rfl ?_
              refine kx_st 3 (pc' := 78) (L' := [some (.ref 65), some (.int v), some (.int 47), some (.int wv)]) (st' := [.int 42, .int 47]) (h' := kv_wd g2 w) rfl ?_
              refine kx_st 1 (pc' := 87) (L' := [some (.ref 65), some (.int v), some (.int 47), some (.int wv)]) (st' := []) (h' := kv_wd g2 w) rfl ?_
              refine kx_st 1 (pc' := 88) (L' := [some (.ref 65), some (.int v), some (.int 47), some (.int wv)]) (st' := [.int wv]) (h' := kv_wd g2 w) rfl ?_
              refine kx_bc (t := 95) rfl rfl (fun (h88 : ¬ wv = 0) => ?_) (fun (h88 : ¬ (¬ wv = 0)) => ?_)
              · refine kx_st 2 (pc' := 98) (L' := [some (.ref 65), some (.int v), some (.int 47), some (.int wv)]) (st' := [.int 47, .int 47]) (h' := kv_wd g2 w) rfl ?_
                refine kx_st 1 (pc' := 101) (L' := [some (.ref 65), some (.int v), some (.int 47), some (.int wv)]) (st' := []) (h' := kv_wd g2 w) rfl ?_
                refine kx_st 2 (pc' := 103) (L' := [some (.ref 65), some (.int v), some (.int 47), some (.int wv)]) (st' := [.int wv, .int v]) (h' := kv_wd g2 w) rfl ?_
                refine kx_dv rfl h88 ?_
                refine kx_st 3 (pc' := 5) (L' := [some (.ref 65), some (.int (v / wv)), some (.int 47), some (.int wv)]) (st' := []) (h' := kv_wd g2 w) rfl ?_
                rw [(show v / wv = kx_jn 47 v wv from (show v / wv = if wv = 0 then (0 : Int32) else v / wv from (if_neg h88).symm))]
                refine kx_st 2 (pc' := 9) (L' := [some (.ref 65), some (.int (kx_jn 47 v wv)), some (.int 47), some (.int wv)]) (st' := [.int (g2 65 14)]) (h' := kv_wd g2 w) rfl ?_
                refine kx_bc (t := 114) rfl rfl (fun (y9 : g2 65 14 = 0) => ?_) (fun (y9 : ¬ (g2 65 14 = 0)) => ?_)
                · refine kx_st 1 (pc' := 115) (L' := [some (.ref 65), some (.int (kx_jn 47 v wv)), some (.int 47), some (.int wv)]) (st' := [.int (kx_jn 47 v wv)]) (h' := kv_wd g2 w) rfl ?_
                  refine kx_ret (v := some (.int (kx_jn 47 v wv))) rfl ?_
                  exact hP g2 (kx_RG_t r1 r2)
                · exact absurd (show g2 65 14 = 0 by rw [r2.2.2.2.1]; rfl) y9
              · refine kx_st 0 (pc' := 91) (L' := [some (.ref 65), some (.int v), some (.int 47), some (.int wv)]) (st' := []) (h' := kv_wd g2 w) rfl ?_
                refine kx_st 4 (pc' := 5) (L' := [some (.ref 65), some (.int 0), some (.int 47), some (.int wv)]) (st' := []) (h' := kv_wd g2 w) rfl ?_
                rw [(show (0 : Int32) = kx_jn 47 v wv from (show (0 : Int32) = if wv = 0 then (0 : Int32) else v / wv from (if_pos (Classical.not_not.mp h88)).symm))]
                refine kx_st 2 (pc' := 9) (L' := [some (.ref 65), some (.int (kx_jn 47 v wv)), some (.int 47), some (.int wv)]) (st' := [.int (g2 65 14)]) (h' := kv_wd g2 w) rfl ?_
                refine kx_bc (t := 114) rfl rfl (fun (y9 : g2 65 14 = 0) => ?_) (fun (y9 : ¬ (g2 65 14 = 0)) => ?_)
                · refine kx_st 1 (pc' := 115) (L' := [some (.ref 65), some (.int (kx_jn 47 v wv)), some (.int 47), some (.int wv)]) (st' := [.int (kx_jn 47 v wv)]) (h' := kv_wd g2 w) rfl ?_
                  refine kx_ret (v := some (.int (kx_jn 47 v wv))) rfl ?_
                  exact hP g2 (kx_RG_t r1 r2)
                · exact absurd (show g2 65 14 = 0 by rw [r2.2.2.2.1]; rfl) y9
          · have hbt : kx_bt tx n a = 37 := by rw [show kx_bt tx n a = tx a from if_pos hlt]; exact hkey
            refine ⟨kx_jn 37 v wv, (fun z => nomatch z), ?_⟩
            intro E d g w x2 x3 P hs hP
            refine kx_st 2 (pc' := 9) (L' := [some (.ref 65), some (.int v), x2, x3]) (st' := [.int (g 65 14)]) (h' := kv_wd g w) rfl ?_
            refine kx_bc (t := 114) rfl rfl (fun (h9 : g 65 14 = 0) => ?_) (fun (h9 : ¬ (g 65 14 = 0)) => ?_)
            · exact absurd h9 (by rw [hs.2.2.1]; decide)
            · refine kx_st 0 (pc' := 12) (L' := [some (.ref 65), some (.int v), x2, x3]) (st' := []) (h' := kv_wd g w) rfl ?_
              refine kx_st 3 (pc' := 17) (L' := [some (.ref 65), some (.int v), x2, x3]) (st' := [.int (g 65 8), .ref 65]) (h' := kv_wd g w) rfl ?_
              refine kx_call (z := 155) (as := [.ref 65, .int (g 65 8)]) (rest := []) (v := some (.int 37)) (h1 := kv_wd g w) rfl (by rw [show g 65 8 = nI a from hs.1.2.1]; have z := ev_byteAt (E := E) (d := 0) (w := w) hs n50 u1 a (by omega); rw [hbt] at z; exact kx_ev_le (by omega) z) ?_
              refine kx_st 0 (pc' := 20) (L' := [some (.ref 65), some (.int v), x2, x3]) (st' := [.int 37]) (h' := kv_wd g w) rfl ?_
              refine kx_st 1 (pc' := 22) (L' := [some (.ref 65), some (.int v), x2, x3]) (st' := [.int 42, .int 37]) (h' := kv_wd g w) rfl ?_
              refine kx_st 1 (pc' := 25) (L' := [some (.ref 65), some (.int v), x2, x3]) (st' := []) (h' := kv_wd g w) rfl ?_
              refine kx_st 3 (pc' := 30) (L' := [some (.ref 65), some (.int v), x2, x3]) (st' := [.int (g 65 8), .ref 65]) (h' := kv_wd g w) rfl ?_
              refine kx_call (z := 155) (as := [.ref 65, .int (g 65 8)]) (rest := []) (v := some (.int 37)) (h1 := kv_wd g w) rfl (by rw [show g 65 8 = nI a from hs.1.2.1]; have z := ev_byteAt (E := E) (d := 0) (w := w) hs n50 u1 a (by omega); rw [hbt] at z; exact kx_ev_le (by omega) z) ?_
              refine kx_st 0 (pc' := 33) (L' := [some (.ref 65), some (.int v), x2, x3]) (st' := [.int 37]) (h' := kv_wd g w) rfl ?_
              refine kx_st 1 (pc' := 35) (L' := [some (.ref 65), some (.int v), x2, x3]) (st' := [.int 47, .int 37]) (h' := kv_wd g w) rfl ?_
              refine kx_st 1 (pc' := 38) (L' := [some (.ref 65), some (.int v), x2, x3]) (st' := []) (h' := kv_wd g w) rfl ?_
              refine kx_st 3 (pc' := 43) (L' := [some (.ref 65), some (.int v), x2, x3]) (st' := [.int (g 65 8), .ref 65]) (h' := kv_wd g w) rfl ?_
              refine kx_call (z := 155) (as := [.ref 65, .int (g 65 8)]) (rest := []) (v := some (.int 37)) (h1 := kv_wd g w) rfl (by rw [show g 65 8 = nI a from hs.1.2.1]; have z := ev_byteAt (E := E) (d := 0) (w := w) hs n50 u1 a (by omega); rw [hbt] at z; exact kx_ev_le (by omega) z) ?_
              refine kx_st 0 (pc' := 46) (L' := [some (.ref 65), some (.int v), x2, x3]) (st' := [.int 37]) (h' := kv_wd g w) rfl ?_
              refine kx_st 1 (pc' := 48) (L' := [some (.ref 65), some (.int v), x2, x3]) (st' := [.int 37, .int 37]) (h' := kv_wd g w) rfl ?_
              refine kx_st 1 (pc' := 51) (L' := [some (.ref 65), some (.int v), x2, x3]) (st' := []) (h' := kv_wd g w) rfl ?_
              refine kx_st 3 (pc' := 56) (L' := [some (.ref 65), some (.int v), x2, x3]) (st' := [.int (g 65 8), .ref 65]) (h' := kv_wd g w) rfl ?_
              refine kx_call (z := 155) (as := [.ref 65, .int (g 65 8)]) (rest := []) (v := some (.int 37)) (h1 := kv_wd g w) rfl (by rw [show g 65 8 = nI a from hs.1.2.1]; have z := ev_byteAt (E := E) (d := 0) (w := w) hs n50 u1 a (by omega); rw [hbt] at z; exact kx_ev_le (by omega) z) ?_
              refine kx_st 0 (pc' := 59) (L' := [some (.ref 65), some (.int v), x2, x3]) (st' := [.int 37]) (h' := kv_wd g w) rfl ?_
              refine kx_st 6 (pc' := 67) (L' := [some (.ref 65), some (.int v), some (.int 37), x3]) (st' := [.int ((g 65 8) + 1), .ref 65]) (h' := kv_wd g w) rfl ?_
              refine kx_pf (i := 113) (k := 8) (x := ((g 65 8) + 1)) rfl rfl (by decide) rfl (Nat.le_of_ble_eq_true rfl) rfl rfl rfl ?_
              refine kx_st 1 (pc' := 71) (L' := [some (.ref 65), some (.int v), some (.int 37), x3]) (st' := [.ref 65]) (h' := kv_wd (kv_up g 65 8 ((g 65 8) + 1)) w) rfl ?_
              have r1 := kx_RG_up hs (g 65 8 + 1) (by rw [hs.1.2.1, nI_succ])
              obtain ⟨g2, e2, r2⟩ := hw2 E d _ w (kx_RS_of hs r1)
              refine kx_call (z := 160) (as := [.ref 65]) (rest := []) (v := some (.int wv)) (h1 := kv_wd g2 w) rfl e2 ?_
              refine kx_st 0 (pc' := 74) (L' := [some (.ref 65), some (.int v), some (.int 37), x3]) (st' := [.int wv]) (h' := kv_wd g2 w) rfl ?_
              refine kx_st 3 (pc' := 78) (L' := [some (.ref 65), some (.int v), some (.int 37), some (.int wv)]) (st' := [.int 42, .int 37]) (h' := kv_wd g2 w) rfl ?_
              refine kx_st 1 (pc' := 87) (L' := [some (.ref 65), some (.int v), some (.int 37), some (.int wv)]) (st' := []) (h' := kv_wd g2 w) rfl ?_
              refine kx_st 1 (pc' := 88) (L' := [some (.ref 65), some (.int v), some (.int 37), some (.int wv)]) (st' := [.int wv]) (h' := kv_wd g2 w) rfl ?_
              refine kx_bc (t := 95) rfl rfl (fun (h88 : ¬ wv = 0) => ?_) (fun (h88 : ¬ (¬ wv = 0)) => ?_)
              · refine kx_st 2 (pc' := 98) (L' := [some (.ref 65), some (.int v), some (.int 37), some (.int wv)]) (st' := [.int 47, .int 37]) (h' := kv_wd g2 w) rfl ?_
                refine kx_st 1 (pc' := 107) (L' := [some (.ref 65), some (.int v), some (.int 37), some (.int wv)]) (st' := []) (h' := kv_wd g2 w) rfl ?_
                refine kx_st 2 (pc' := 109) (L' := [some (.ref 65), some (.int v), some (.int 37), some (.int wv)]) (st' := [.int wv, .int v]) (h' := kv_wd g2 w) rfl ?_
                refine kx_rm rfl h88 ?_
                refine kx_st 2 (pc' := 5) (L' := [some (.ref 65), some (.int (v % wv)), some (.int 37), some (.int wv)]) (st' := []) (h' := kv_wd g2 w) rfl ?_
                rw [(show v % wv = kx_jn 37 v wv from (show v % wv = if wv = 0 then (0 : Int32) else v % wv from (if_neg h88).symm))]
                refine kx_st 2 (pc' := 9) (L' := [some (.ref 65), some (.int (kx_jn 37 v wv)), some (.int 37), some (.int wv)]) (st' := [.int (g2 65 14)]) (h' := kv_wd g2 w) rfl ?_
                refine kx_bc (t := 114) rfl rfl (fun (y9 : g2 65 14 = 0) => ?_) (fun (y9 : ¬ (g2 65 14 = 0)) => ?_)
                · refine kx_st 1 (pc' := 115) (L' := [some (.ref 65), some (.int (kx_jn 37 v wv)), some (.int 37), some (.int wv)]) (st' := [.int (kx_jn 37 v wv)]) (h' := kv_wd g2 w) rfl ?_
                  refine kx_ret (v := some (.int (kx_jn 37 v wv))) rfl ?_
                  exact hP g2 (kx_RG_t r1 r2)
                · exact absurd (show g2 65 14 = 0 by rw [r2.2.2.2.1]; rfl) y9
              · refine kx_st 0 (pc' := 91) (L' := [some (.ref 65), some (.int v), some (.int 37), some (.int wv)]) (st' := []) (h' := kv_wd g2 w) rfl ?_
                refine kx_st 4 (pc' := 5) (L' := [some (.ref 65), some (.int 0), some (.int 37), some (.int wv)]) (st' := []) (h' := kv_wd g2 w) rfl ?_
                rw [(show (0 : Int32) = kx_jn 37 v wv from (show (0 : Int32) = if wv = 0 then (0 : Int32) else v % wv from (if_pos (Classical.not_not.mp h88)).symm))]
                refine kx_st 2 (pc' := 9) (L' := [some (.ref 65), some (.int (kx_jn 37 v wv)), some (.int 37), some (.int wv)]) (st' := [.int (g2 65 14)]) (h' := kv_wd g2 w) rfl ?_
                refine kx_bc (t := 114) rfl rfl (fun (y9 : g2 65 14 = 0) => ?_) (fun (y9 : ¬ (g2 65 14 = 0)) => ?_)
                · refine kx_st 1 (pc' := 115) (L' := [some (.ref 65), some (.int (kx_jn 37 v wv)), some (.int 37), some (.int wv)]) (st' := [.int (kx_jn 37 v wv)]) (h' := kv_wd g2 w) rfl ?_
                  refine kx_ret (v := some (.int (kx_jn 37 v wv))) rfl ?_
                  exact hP g2 (kx_RG_t r1 r2)
                · exact absurd (show g2 65 14 = 0 by rw [r2.2.2.2.1]; rfl) y9
    · refine ⟨true, a, [], ⟨⟨Nat.le_refl _, han⟩, fun _ => ⟨by simp, by show 2 * 0 ≤ _; omega⟩⟩, ?_, ?_⟩
      · intro E d g w ln x3 P hE hs hln hP
        refine kx_st 4 (pc' := 32) (L' := [some (.ref 48), some (.int 4), some (.int (nI op)), x3]) (st' := [.int (g 48 2), .int (g 48 3)]) (h' := kv_wd g w) rfl ?_
        refine kx_bi (t := 103) rfl rfl (fun (h32 : g 48 2 ≤ g 48 3) => ?_) (fun (h32 : ¬ (g 48 2 ≤ g 48 3)) => ?_)
        · refine kx_st 1 (pc' := 104) (L' := [some (.ref 48), some (.int 4), some (.int (nI op)), x3]) (st' := [.int 1]) (h' := kv_wd g w) rfl ?_
          refine kx_ret (v := some (.int 1)) rfl ?_
          exact hP g (kx_CR_0 hs true)
        · refine kx_st 0 (pc' := 35) (L' := [some (.ref 48), some (.int 4), some (.int (nI op)), x3]) (st' := []) (h' := kv_wd g w) rfl ?_
          refine kx_st 4 (pc' := 43) (L' := [some (.ref 48), some (.int 4), some (.int (nI op)), x3]) (st' := [.int (g 48 3), .ref 52]) (h' := kv_wd g w) rfl ?_
          refine kx_ia (k := a) rfl rfl (by decide) hs.2.1 (by have : a < n := (fun z => Classical.not_not.mp (fun y => z (by rw [hs.2.1, hs.1]; exact nI_le (by omega) (by omega)))) h32; omega) (by decide) ?_
          refine kx_call (z := 48) (as := [.int (g 52 a)]) (rest := []) (v := some (.int (kx_lv (g 52 a)))) (h1 := kv_wd g w) rfl (kx_ev_le (d := 0 + 1) (by omega) (ev_levelOf (d := 0) _)) ?_
          refine kx_st 0 (pc' := 47) (L' := [some (.ref 48), some (.int 4), some (.int (nI op)), x3]) (st' := [.int (kx_lv (g 52 a))]) (h' := kv_wd g w) rfl ?_
          refine kx_st 1 (pc' := 48) (L' := [some (.ref 48), some (.int 4), some (.int (nI op)), x3]) (st' := [.int 4, .int (kx_lv (g 52 a))]) (h' := kv_wd g w) rfl ?_
          refine kx_bi (t := 103) rfl rfl (fun (h48 : ¬ kx_lv (g 52 a) = 4) => ?_) (fun (h48 : ¬ (¬ kx_lv (g 52 a) = 4)) => ?_)
          · refine kx_st 1 (pc' := 104) (L' := [some (.ref 48), some (.int 4), some (.int (nI op)), x3]) (st' := [.int 1]) (h' := kv_wd g w) rfl ?_
            refine kx_ret (v := some (.int 1)) rfl ?_
            exact hP g (kx_CR_0 hs true)
          · exact absurd ⟨(fun z => Classical.not_not.mp (fun y => z (by rw [hs.2.1, hs.1]; exact nI_le (by omega) (by omega)))) h32, by rw [← hs.2.2.2.1 a ((fun z => Classical.not_not.mp (fun y => z (by rw [hs.2.1, hs.1]; exact nI_le (by omega) (by omega)))) h32)]; exact Classical.not_not.mp h48⟩ hk
      · intro A B C v
        refine ⟨v, fun _ st => rfl, ?_⟩
        intro E d g w x2 x3 P hs hP
        refine kx_st 2 (pc' := 9) (L' := [some (.ref 65), some (.int v), x2, x3]) (st' := [.int (g 65 14)]) (h' := kv_wd g w) rfl ?_
        refine kx_bc (t := 114) rfl rfl (fun (h9 : g 65 14 = 0) => ?_) (fun (h9 : ¬ (g 65 14 = 0)) => ?_)
        · exact absurd h9 (by rw [hs.2.2.1]; decide)
        · refine kx_st 0 (pc' := 12) (L' := [some (.ref 65), some (.int v), x2, x3]) (st' := []) (h' := kv_wd g w) rfl ?_
          refine kx_st 3 (pc' := 17) (L' := [some (.ref 65), some (.int v), x2, x3]) (st' := [.int (g 65 8), .ref 65]) (h' := kv_wd g w) rfl ?_
          refine kx_call (z := 155) (as := [.ref 65, .int (g 65 8)]) (rest := []) (v := some (.int (kx_bt tx n a))) (h1 := kv_wd g w) rfl (by rw [show g 65 8 = nI a from hs.1.2.1]; exact kx_ev_le (d := 0 + 1) (by omega) (ev_byteAt (d := 0) hs n50 u1 a (by omega))) ?_
          refine kx_st 0 (pc' := 20) (L' := [some (.ref 65), some (.int v), x2, x3]) (st' := [.int (kx_bt tx n a)]) (h' := kv_wd g w) rfl ?_
          refine kx_st 1 (pc' := 22) (L' := [some (.ref 65), some (.int v), x2, x3]) (st' := [.int 42, .int (kx_bt tx n a)]) (h' := kv_wd g w) rfl ?_
          refine kx_bi (t := 51) rfl rfl (fun (h22 : kx_bt tx n a = 42) => ?_) (fun (h22 : ¬ (kx_bt tx n a = 42)) => ?_)
          · exact absurd h22 (kx_bn_42 hk)
          · refine kx_st 0 (pc' := 25) (L' := [some (.ref 65), some (.int v), x2, x3]) (st' := []) (h' := kv_wd g w) rfl ?_
            refine kx_st 3 (pc' := 30) (L' := [some (.ref 65), some (.int v), x2, x3]) (st' := [.int (g 65 8), .ref 65]) (h' := kv_wd g w) rfl ?_
            refine kx_call (z := 155) (as := [.ref 65, .int (g 65 8)]) (rest := []) (v := some (.int (kx_bt tx n a))) (h1 := kv_wd g w) rfl (by rw [show g 65 8 = nI a from hs.1.2.1]; exact kx_ev_le (d := 0 + 1) (by omega) (ev_byteAt (d := 0) hs n50 u1 a (by omega))) ?_
            refine kx_st 0 (pc' := 33) (L' := [some (.ref 65), some (.int v), x2, x3]) (st' := [.int (kx_bt tx n a)]) (h' := kv_wd g w) rfl ?_
            refine kx_st 1 (pc' := 35) (L' := [some (.ref 65), some (.int v), x2, x3]) (st' := [.int 47, .int (kx_bt tx n a)]) (h' := kv_wd g w) rfl ?_
            refine kx_bi (t := 51) rfl rfl (fun (h35 : kx_bt tx n a = 47) => ?_) (fun (h35 : ¬ (kx_bt tx n a = 47)) => ?_)
            · exact absurd h35 (kx_bn_47 hk)
            · refine kx_st 0 (pc' := 38) (L' := [some (.ref 65), some (.int v), x2, x3]) (st' := []) (h' := kv_wd g w) rfl ?_
              refine kx_st 3 (pc' := 43) (L' := [some (.ref 65), some (.int v), x2, x3]) (st' := [.int (g 65 8), .ref 65]) (h' := kv_wd g w) rfl ?_
              refine kx_call (z := 155) (as := [.ref 65, .int (g 65 8)]) (rest := []) (v := some (.int (kx_bt tx n a))) (h1 := kv_wd g w) rfl (by rw [show g 65 8 = nI a from hs.1.2.1]; exact kx_ev_le (d := 0 + 1) (by omega) (ev_byteAt (d := 0) hs n50 u1 a (by omega))) ?_
              refine kx_st 0 (pc' := 46) (L' := [some (.ref 65), some (.int v), x2, x3]) (st' := [.int (kx_bt tx n a)]) (h' := kv_wd g w) rfl ?_
              refine kx_st 1 (pc' := 48) (L' := [some (.ref 65), some (.int v), x2, x3]) (st' := [.int 37, .int (kx_bt tx n a)]) (h' := kv_wd g w) rfl ?_
              refine kx_bi (t := 114) rfl rfl (fun (h48 : ¬ kx_bt tx n a = 37) => ?_) (fun (h48 : ¬ (¬ kx_bt tx n a = 37)) => ?_)
              · refine kx_st 1 (pc' := 115) (L' := [some (.ref 65), some (.int v), x2, x3]) (st' := [.int v]) (h' := kv_wd g w) rfl ?_
                refine kx_ret (v := some (.int v)) rfl ?_
                exact hP g (kx_RG_0 hs)
              · exact absurd (Classical.not_not.mp h48) (kx_bn_37 hk)
set_option maxRecDepth 100000 in
theorem kx_pl_4 {tx : Nat → Int32} {n u op : Nat} (n50 : n ≤ 50) (u1 : u ≤ 1) (hn : ∀ a, a ≤ n → kx_PL tx n u 5 4 160 op a) : ∀ a, a ≤ n → kx_PL tx n u 4 5 161 op a := by
  intro a han
  obtain ⟨ok1, a2, cd1, hb1, hpx, hpm⟩ := hn a han
  have hbb := hb1.1
  cases ok1 with
  | false =>
    refine ⟨false, a2, [], ⟨hbb, fun z => nomatch z⟩, ?_, ?_⟩
    · intro E d g w ln hE hs hln
      obtain ⟨v0, hf, he, rfl, g', rfl, hh⟩ := kx_evP (E := E) (d := d + (8 * (5 - op) + 4)) (y := 47) (h := kv_wd g w) (as := [.ref 48, .int 4, .int (nI op)]) (P := fun v0 h => v0 = (some (.int 0) : Option Value) ∧ ∃ g' : kv_S, h = kv_wd g' w ∧ kx_CR g g' a2 false ln []) (by decide) (Nat.le_of_ble_eq_true rfl) (by
        refine kx_st 0 (pc' := 0) (L' := [some (.ref 48), some (.int 4), some (.int (nI op)), none]) (st' := []) (h' := kv_wd g w) rfl ?_
        refine kx_st 2 (pc' := 2) (L' := [some (.ref 48), some (.int 4), some (.int (nI op)), none]) (st' := [.int 5, .int 4]) (h' := kv_wd g w) rfl ?_
        refine kx_st 1 (pc' := 11) (L' := [some (.ref 48), some (.int 4), some (.int (nI op)), none]) (st' := []) (h' := kv_wd g w) rfl ?_
        refine kx_st 5 (pc' := 16) (L' := [some (.ref 48), some (.int 4), some (.int (nI op)), none]) (st' := [.int (nI op), .int 5, .ref 48]) (h' := kv_wd g w) rfl ?_
        obtain ⟨g2, e2, r2⟩ := hpx E d g w ln hE hs hln
        refine kx_call (z := 47) (as := [.ref 48, .int 5, .int (nI op)]) (rest := []) (v := some (.int 0)) (h1 := kv_wd g2 w) rfl e2 ?_
        refine kx_st 0 (pc' := 19) (L' := [some (.ref 48), some (.int 4), some (.int (nI op)), none]) (st' := [.int 0]) (h' := kv_wd g2 w) rfl ?_
        refine kx_st 1 (pc' := 22) (L' := [some (.ref 48), some (.int 4), some (.int (nI op)), none]) (st' := []) (h' := kv_wd g2 w) rfl ?_
        refine kx_st 1 (pc' := 23) (L' := [some (.ref 48), some (.int 4), some (.int (nI op)), none]) (st' := [.int 0]) (h' := kv_wd g2 w) rfl ?_
        refine kx_ret (v := some (.int 0)) rfl ?_
        exact ⟨rfl, _, rfl, r2.1, r2.2.1, r2.2.2.1, fun z => nomatch z⟩)
      exact ⟨g', kx_ev_le (by omega) he, hh⟩
    · intro A B C
      obtain ⟨v, hv1, hv2⟩ := hpm A B C
      refine ⟨v, (fun z => nomatch z), ?_⟩
      intro E d g w hs
      obtain ⟨v0, hf, he, rfl, g', rfl, hh⟩ := kx_evP (E := E) (d := d + (6 * (5 - op) + 4)) (y := 161) (h := kv_wd g w) (as := [.ref 65]) (P := fun v0 h => v0 = (some (.int v) : Option Value) ∧ ∃ g' : kv_S, h = kv_wd g' w ∧ kx_RG g g' a2 op false) (by decide) (Nat.le_of_ble_eq_true rfl) (by
        refine kx_st 0 (pc' := 0) (L' := [some (.ref 65), none, none, none]) (st' := []) (h' := kv_wd g w) rfl ?_
        refine kx_st 1 (pc' := 1) (L' := [some (.ref 65), none, none, none]) (st' := [.ref 65]) (h' := kv_wd g w) rfl ?_
        obtain ⟨g2, e2, r2⟩ := hv2 E d g w hs
        refine kx_call (z := 160) (as := [.ref 65]) (rest := []) (v := some (.int v)) (h1 := kv_wd g2 w) rfl e2 ?_
        refine kx_st 0 (pc' := 4) (L' := [some (.ref 65), none, none, none]) (st' := [.int v]) (h' := kv_wd g2 w) rfl ?_
        refine kx_st 3 (pc' := 9) (L' := [some (.ref 65), some (.int v), none, none]) (st' := [.int (g2 65 14)]) (h' := kv_wd g2 w) rfl ?_
        refine kx_bc (t := 114) rfl rfl (fun (h9 : g2 65 14 = 0) => ?_) (fun (h9 : ¬ (g2 65 14 = 0)) => ?_)
        · refine kx_st 1 (pc' := 115) (L' := [some (.ref 65), some (.int v), none, none]) (st' := [.int v]) (h' := kv_wd g2 w) rfl ?_
          refine kx_ret (v := some (.int v)) rfl ?_
          exact ⟨rfl, _, rfl, r2⟩
        · exact absurd (show g2 65 14 = 0 by rw [r2.2.2.2.1]; rfl) h9)
      exact ⟨g', kx_ev_le (by omega) he, hh⟩
  | true =>
    obtain ⟨ok, a3, tl, hbt0, hxx2, hmm0⟩ := kx_tl_4 n50 u1 hn (n - a2) a2 (Nat.le_refl _) (by omega)
    have q1 := hb1.2 rfl
    refine ⟨ok, a3, cd1 ++ tl, ⟨⟨by have := hbt0.1; omega, hbt0.1.2⟩, fun z => ?_⟩, ?_, ?_⟩
    · have q2 := hbt0.2 z
      have q3 := hbt0.1
      rw [List.length_append, kx_nv_app]
      omega
    · intro E d g w ln hE hs hln
      obtain ⟨v0, hf, he, rfl, g', rfl, hh⟩ := kx_evP (E := E) (d := d + (8 * (5 - op) + 4)) (y := 47) (h := kv_wd g w) (as := [.ref 48, .int 4, .int (nI op)]) (P := fun v0 h => v0 = (some (.int (kx_ob ok)) : Option Value) ∧ ∃ g' : kv_S, h = kv_wd g' w ∧ kx_CR g g' a3 ok ln (cd1 ++ tl)) (by decide) (Nat.le_of_ble_eq_true rfl) (by
        refine kx_st 0 (pc' := 0) (L' := [some (.ref 48), some (.int 4), some (.int (nI op)), none]) (st' := []) (h' := kv_wd g w) rfl ?_
        refine kx_st 2 (pc' := 2) (L' := [some (.ref 48), some (.int 4), some (.int (nI op)), none]) (st' := [.int 5, .int 4]) (h' := kv_wd g w) rfl ?_
        refine kx_st 1 (pc' := 11) (L' := [some (.ref 48), some (.int 4), some (.int (nI op)), none]) (st' := []) (h' := kv_wd g w) rfl ?_
        refine kx_st 5 (pc' := 16) (L' := [some (.ref 48), some (.int 4), some (.int (nI op)), none]) (st' := [.int (nI op), .int 5, .ref 48]) (h' := kv_wd g w) rfl ?_
        obtain ⟨g2, e2, r2⟩ := hpx E d g w ln hE hs hln
        refine kx_call (z := 47) (as := [.ref 48, .int 5, .int (nI op)]) (rest := []) (v := some (.int 1)) (h1 := kv_wd g2 w) rfl e2 ?_
        refine kx_st 0 (pc' := 19) (L' := [some (.ref 48), some (.int 4), some (.int (nI op)), none]) (st' := [.int 1]) (h' := kv_wd g2 w) rfl ?_
        refine kx_st 1 (pc' := 24) (L' := [some (.ref 48), some (.int 4), some (.int (nI op)), none]) (st' := []) (h' := kv_wd g2 w) rfl ?_
        exact hxx2 E d g2 w (ln + cd1.length) none _ hE (kx_CS_of hs r2) (by omega) (fun g' r => ⟨rfl, g', rfl, kx_CR_t r2 r⟩))
      exact ⟨g', kx_ev_le (by omega) he, hh⟩
    · intro A B C
      obtain ⟨v, hv1, hv2⟩ := hpm A B C
      obtain ⟨v', hv3, hmm⟩ := hmm0 A B C v
      refine ⟨v', fun z st => ?_, ?_⟩
      · rw [kx_ex_app, hv1 rfl st]; exact hv3 z st
      · intro E d g w hs
        obtain ⟨v0, hf, he, rfl, g', rfl, hh⟩ := kx_evP (E := E) (d := d + (6 * (5 - op) + 4)) (y := 161) (h := kv_wd g w) (as := [.ref 65]) (P := fun v0 h => v0 = (some (.int v') : Option Value) ∧ ∃ g' : kv_S, h = kv_wd g' w ∧ kx_RG g g' a3 op ok) (by decide) (Nat.le_of_ble_eq_true rfl) (by
          refine kx_st 0 (pc' := 0) (L' := [some (.ref 65), none, none, none]) (st' := []) (h' := kv_wd g w) rfl ?_
          refine kx_st 1 (pc' := 1) (L' := [some (.ref 65), none, none, none]) (st' := [.ref 65]) (h' := kv_wd g w) rfl ?_
          obtain ⟨g2, e2, r2⟩ := hv2 E d g w hs
          refine kx_call (z := 160) (as := [.ref 65]) (rest := []) (v := some (.int v)) (h1 := kv_wd g2 w) rfl e2 ?_
          refine kx_st 0 (pc' := 4) (L' := [some (.ref 65), none, none, none]) (st' := [.int v]) (h' := kv_wd g2 w) rfl ?_
          refine kx_st 1 (pc' := 5) (L' := [some (.ref 65), some (.int v), none, none]) (st' := []) (h' := kv_wd g2 w) rfl ?_
          exact hmm E d g2 w none none _ (kx_RS_of hs r2) (fun g' r => ⟨rfl, g', rfl, kx_RG_t r2 r⟩))
        exact ⟨g', kx_ev_le (by omega) he, hh⟩
set_option maxRecDepth 100000 in
theorem kx_tl_3 {tx : Nat → Int32} {n u op : Nat} (n50 : n ≤ 50) (u1 : u ≤ 1) (hn : ∀ a, a ≤ n → kx_PL tx n u 4 5 161 op a) : ∀ k a, n - a ≤ k → a ≤ n → ∃ (ok : Bool) (a1 : Nat) (tl : List Int32), ((a ≤ a1 ∧ a1 ≤ n) ∧ (ok = true → tl.length ≤ a1 - a ∧ 2 * kx_nv tl ≤ a1 - a)) ∧ (∀ (E : kv_V) (d : Nat) (g : kv_S) (w : kv_W) (ln : Nat) (x3 : Option Value) (P : Option Value → kv_H → Prop), E 1002 = some (1, 6, kv_NA) → kx_CS tx n u g a ln → ln + (n - a) ≤ 50 → (∀ g', kx_CR g g' a1 ok ln tl → P (some (.int (kx_ob ok))) (kv_wd g' w)) → kx_V E (d + (8 * (5 - op) + 5)) 47 24 [some (.ref 48), some (.int 3), some (.int (nI op)), x3] [] (kv_wd g w) P) ∧ (∀ A B C v : Int32, ∃ v' : Int32, (ok = true → ∀ st, kx_ex A B C tl (v :: st) = v' :: st) ∧ ∀ (E : kv_V) (d : Nat) (g : kv_S) (w : kv_W) (x2 x3 : Option Value) (P : Option Value → kv_H → Prop), kx_RS tx n u g a op A B C → (∀ g', kx_RG g g' a1 op ok → P (some (.int v')) (kv_wd g' w)) → kx_V E (d + (6 * (5 - op) + 5)) 162 5 [some (.ref 65), some (.int v), x2, x3] [] (kv_wd g w) P) := by
  intro k
  induction k with
  | zero =>
    intro a hk0 han
    have hk : ¬ (a < n ∧ kx_lv (tx a) = 3) := fun z => by omega
    refine ⟨true, a, [], ⟨⟨Nat.le_refl _, han⟩, fun _ => ⟨by simp, by show 2 * 0 ≤ _; omega⟩⟩, ?_, ?_⟩
    · intro E d g w ln x3 P hE hs hln hP
      refine kx_st 4 (pc' := 32) (L' := [some (.ref 48), some (.int 3), some (.int (nI op)), x3]) (st' := [.int (g 48 2), .int (g 48 3)]) (h' := kv_wd g w) rfl ?_
      refine kx_bi (t := 103) rfl rfl (fun (h32 : g 48 2 ≤ g 48 3) => ?_) (fun (h32 : ¬ (g 48 2 ≤ g 48 3)) => ?_)
      · refine kx_st 1 (pc' := 104) (L' := [some (.ref 48), some (.int 3), some (.int (nI op)), x3]) (st' := [.int 1]) (h' := kv_wd g w) rfl ?_
        refine kx_ret (v := some (.int 1)) rfl ?_
        exact hP g (kx_CR_0 hs true)
      · refine kx_st 0 (pc' := 35) (L' := [some (.ref 48), some (.int 3), some (.int (nI op)), x3]) (st' := []) (h' := kv_wd g w) rfl ?_
        refine kx_st 4 (pc' := 43) (L' := [some (.ref 48), some (.int 3), some (.int (nI op)), x3]) (st' := [.int (g 48 3), .ref 52]) (h' := kv_wd g w) rfl ?_
        refine kx_ia (k := a) rfl rfl (by decide) hs.2.1 (by have : a < n := (fun z => Classical.not_not.mp (fun y => z (by rw [hs.2.1, hs.1]; exact nI_le (by omega) (by omega)))) h32; omega) (by decide) ?_
        refine kx_call (z := 48) (as := [.int (g 52 a)]) (rest := []) (v := some (.int (kx_lv (g 52 a)))) (h1 := kv_wd g w) rfl (kx_ev_le (d := 0 + 1) (by omega) (ev_levelOf (d := 0) _)) ?_
        refine kx_st 0 (pc' := 47) (L' := [some (.ref 48), some (.int 3), some (.int (nI op)), x3]) (st' := [.int (kx_lv (g 52 a))]) (h' := kv_wd g w) rfl ?_
        refine kx_st 1 (pc' := 48) (L' := [some (.ref 48), some (.int 3), some (.int (nI op)), x3]) (st' := [.int 3, .int (kx_lv (g 52 a))]) (h' := kv_wd g w) rfl ?_
        refine kx_bi (t := 103) rfl rfl (fun (h48 : ¬ kx_lv (g 52 a) = 3) => ?_) (fun (h48 : ¬ (¬ kx_lv (g 52 a) = 3)) => ?_)
        · refine kx_st 1 (pc' := 104) (L' := [some (.ref 48), some (.int 3), some (.int (nI op)), x3]) (st' := [.int 1]) (h' := kv_wd g w) rfl ?_
          refine kx_ret (v := some (.int 1)) rfl ?_
          exact hP g (kx_CR_0 hs true)
        · exact absurd ⟨(fun z => Classical.not_not.mp (fun y => z (by rw [hs.2.1, hs.1]; exact nI_le (by omega) (by omega)))) h32, by rw [← hs.2.2.2.1 a ((fun z => Classical.not_not.mp (fun y => z (by rw [hs.2.1, hs.1]; exact nI_le (by omega) (by omega)))) h32)]; exact Classical.not_not.mp h48⟩ hk
    · intro A B C v
      refine ⟨v, fun _ st => rfl, ?_⟩
      intro E d g w x2 x3 P hs hP
      refine kx_st 2 (pc' := 9) (L' := [some (.ref 65), some (.int v), x2, x3]) (st' := [.int (g 65 14)]) (h' := kv_wd g w) rfl ?_
      refine kx_bc (t := 81) rfl rfl (fun (h9 : g 65 14 = 0) => ?_) (fun (h9 : ¬ (g 65 14 = 0)) => ?_)
      · exact absurd h9 (by rw [hs.2.2.1]; decide)
      · refine kx_st 0 (pc' := 12) (L' := [some (.ref 65), some (.int v), x2, x3]) (st' := []) (h' := kv_wd g w) rfl ?_
        refine kx_st 3 (pc' := 17) (L' := [some (.ref 65), some (.int v), x2, x3]) (st' := [.int (g 65 8), .ref 65]) (h' := kv_wd g w) rfl ?_
        refine kx_call (z := 155) (as := [.ref 65, .int (g 65 8)]) (rest := []) (v := some (.int (kx_bt tx n a))) (h1 := kv_wd g w) rfl (by rw [show g 65 8 = nI a from hs.1.2.1]; exact kx_ev_le (d := 0 + 1) (by omega) (ev_byteAt (d := 0) hs n50 u1 a (by omega))) ?_
        refine kx_st 0 (pc' := 20) (L' := [some (.ref 65), some (.int v), x2, x3]) (st' := [.int (kx_bt tx n a)]) (h' := kv_wd g w) rfl ?_
        refine kx_st 1 (pc' := 22) (L' := [some (.ref 65), some (.int v), x2, x3]) (st' := [.int 43, .int (kx_bt tx n a)]) (h' := kv_wd g w) rfl ?_
        refine kx_bi (t := 38) rfl rfl (fun (h22 : kx_bt tx n a = 43) => ?_) (fun (h22 : ¬ (kx_bt tx n a = 43)) => ?_)
        · exact absurd h22 (kx_bn_43 hk)
        · refine kx_st 0 (pc' := 25) (L' := [some (.ref 65), some (.int v), x2, x3]) (st' := []) (h' := kv_wd g w) rfl ?_
          refine kx_st 3 (pc' := 30) (L' := [some (.ref 65), some (.int v), x2, x3]) (st' := [.int (g 65 8), .ref 65]) (h' := kv_wd g w) rfl ?_
          refine kx_call (z := 155) (as := [.ref 65, .int (g 65 8)]) (rest := []) (v := some (.int (kx_bt tx n a))) (h1 := kv_wd g w) rfl (by rw [show g 65 8 = nI a from hs.1.2.1]; exact kx_ev_le (d := 0 + 1) (by omega) (ev_byteAt (d := 0) hs n50 u1 a (by omega))) ?_
          refine kx_st 0 (pc' := 33) (L' := [some (.ref 65), some (.int v), x2, x3]) (st' := [.int (kx_bt tx n a)]) (h' := kv_wd g w) rfl ?_
          refine kx_st 1 (pc' := 35) (L' := [some (.ref 65), some (.int v), x2, x3]) (st' := [.int 45, .int (kx_bt tx n a)]) (h' := kv_wd g w) rfl ?_
          refine kx_bi (t := 81) rfl rfl (fun (h35 : ¬ kx_bt tx n a = 45) => ?_) (fun (h35 : ¬ (¬ kx_bt tx n a = 45)) => ?_)
          · refine kx_st 1 (pc' := 82) (L' := [some (.ref 65), some (.int v), x2, x3]) (st' := [.int v]) (h' := kv_wd g w) rfl ?_
            refine kx_ret (v := some (.int v)) rfl ?_
            exact hP g (kx_RG_0 hs)
          · exact absurd (Classical.not_not.mp h35) (kx_bn_45 hk)
  | succ k ih =>
    intro a hk0 han
    by_cases hk : a < n ∧ kx_lv (tx a) = 3
    · obtain ⟨hlt, hlv⟩ := hk
      obtain ⟨ok1, a2, cd1, hb1, hpx, hpm⟩ := hn (a + 1) (by omega)
      have hbb := hb1.1
      have hxx : ¬ -3 ≤ -(tx a) ∧ ¬ -(tx a) = -33 := by
        rcases kx_lv_3.mp hlv with h | h
        · rw [h]; decide
        · rw [h]; decide
      cases ok1 with
      | true =>
        obtain ⟨ok, a3, tl, hbt0, hxx2, hmm0⟩ := ih a2 (by omega) (by omega)
        have q1 := hb1.2 rfl
        refine ⟨ok, a3, cd1 ++ ([-(tx a)] ++ tl), ⟨⟨by omega, hbt0.1.2⟩, fun z => ?_⟩, ?_, ?_⟩
        · have q2 := hbt0.2 z
          have q3 := hbt0.1
          rw [List.length_append, List.length_append, kx_nv_app, kx_nv_app, kx_nv1 hxx.1, List.length_singleton]
          omega
        · intro E d g w ln x3 P hE hs hln hP
          refine kx_st 4 (pc' := 32) (L' := [some (.ref 48), some (.int 3), some (.int (nI op)), x3]) (st' := [.int (g 48 2), .int (g 48 3)]) (h' := kv_wd g w) rfl ?_
          refine kx_bi (t := 103) rfl rfl (fun (h32 : g 48 2 ≤ g 48 3) => ?_) (fun (h32 : ¬ (g 48 2 ≤ g 48 3)) => ?_)
          · exact absurd h32 (by rw [hs.2.1, hs.1]; exact nI_ge (a := a) (b := n) hlt (by omega))
          · refine kx_st 0 (pc' := 35) (L' := [some (.ref 48), some (.int 3), some (.int (nI op)), x3]) (st' := []) (h' := kv_wd g w) rfl ?_
            refine kx_st 4 (pc' := 43) (L' := [some (.ref 48), some (.int 3), some (.int (nI op)), x3]) (st' := [.int (g 48 3), .ref 52]) (h' := kv_wd g w) rfl ?_
            refine kx_ia (k := a) rfl rfl (by decide) hs.2.1 (by omega) (by decide) ?_
            refine kx_call (z := 48) (as := [.int (g 52 a)]) (rest := []) (v := some (.int (kx_lv (g 52 a)))) (h1 := kv_wd g w) rfl (kx_ev_le (d := 0 + 1) (by omega) (ev_levelOf (d := 0) _)) ?_
            refine kx_st 0 (pc' := 47) (L' := [some (.ref 48), some (.int 3), some (.int (nI op)), x3]) (st' := [.int (kx_lv (g 52 a))]) (h' := kv_wd g w) rfl ?_
            refine kx_st 1 (pc' := 48) (L' := [some (.ref 48), some (.int 3), some (.int (nI op)), x3]) (st' := [.int 3, .int (kx_lv (g 52 a))]) (h' := kv_wd g w) rfl ?_
            refine kx_bi (t := 103) rfl rfl (fun (h48 : ¬ kx_lv (g 52 a) = 3) => ?_) (fun (h48 : ¬ (¬ kx_lv (g 52 a) = 3)) => ?_)
            · exact absurd (by rw [hs.2.2.2.1 a hlt]; exact hlv) h48
            · refine kx_st 0 (pc' := 51) (L' := [some (.ref 48), some (.int 3), some (.int (nI op)), x3]) (st' := []) (h' := kv_wd g w) rfl ?_
              refine kx_st 4 (pc' := 59) (L' := [some (.ref 48), some (.int 3), some (.int (nI op)), x3]) (st' := [.int (g 48 3), .ref 52]) (h' := kv_wd g w) rfl ?_
              refine kx_ia (k := a) rfl rfl (by decide) hs.2.1 (by omega) (by decide) ?_
              refine kx_st 6 (pc' := 68) (L' := [some (.ref 48), some (.int 3), some (.int (nI op)), some (.int (g 52 a))]) (st' := [.int ((g 48 3) + 1), .ref 48]) (h' := kv_wd g w) rfl ?_
              refine kx_pf (i := 28) (k := 3) (x := ((g 48 3) + 1)) rfl rfl (by decide) rfl (Nat.le_of_ble_eq_true rfl) rfl rfl rfl ?_
              refine kx_st 5 (pc' := 76) (L' := [some (.ref 48), some (.int 3), some (.int (nI op)), some (.int (g 52 a))]) (st' := [.int (nI op), .int 4, .ref 48]) (h' := kv_wd (kv_up g 48 3 ((g 48 3) + 1)) w) rfl ?_
              have r1 := (kx_CR_up hs (g 48 3 + 1) (by rw [hs.2.1, nI_succ]))
              obtain ⟨g2, e2, r2⟩ := hpx E d _ w ln hE (kx_CS_u hs r1) (by omega)
              refine kx_call (z := 47) (as := [.ref 48, .int 4, .int (nI op)]) (rest := []) (v := some (.int 1)) (h1 := kv_wd g2 w) rfl e2 ?_
              refine kx_st 0 (pc' := 79) (L' := [some (.ref 48), some (.int 3), some (.int (nI op)), some (.int (g 52 a))]) (st' := [.int 1]) (h' := kv_wd g2 w) rfl ?_
              refine kx_st 1 (pc' := 84) (L' := [some (.ref 48), some (.int 3), some (.int (nI op)), some (.int (g 52 a))]) (st' := []) (h' := kv_wd g2 w) rfl ?_
              refine kx_st 4 (pc' := 90) (L' := [some (.ref 48), some (.int 3), some (.int (nI op)), some (.int (g 52 a))]) (st' := [.int (-(g 52 a)), .ref 49]) (h' := kv_wd g2 w) rfl ?_
              have hs2 := kx_CS_of (kx_CS_u hs r1) r2
              refine kx_call (z := 38) (as := [.ref 49, .int (-(g 52 a))]) (rest := []) (v := none) (h1 := kv_wd (kv_up (kv_up g2 50 (ln + cd1.length) (-(g 52 a))) 49 2 (nI (ln + cd1.length + 1))) w) rfl (kx_ev_le (d := 0 + 1) (by omega) (ev_add (d := 0) (ln + cd1.length) hs2.2.2.2.2 (by have := (hb1.2 rfl).2.1; omega) (-(g 52 a)))) ?_
              refine kx_st 0 (pc' := 93) (L' := [some (.ref 48), some (.int 3), some (.int (nI op)), some (.int (g 52 a))]) (st' := []) (h' := kv_wd (kv_up (kv_up g2 50 (ln + cd1.length) (-(g 52 a))) 49 2 (nI (ln + cd1.length + 1))) w) rfl ?_
              refine kx_st 2 (pc' := 95) (L' := [some (.ref 48), some (.int 3), some (.int (nI op)), some (.int (g 52 a))]) (st' := [.int 2, .int 3]) (h' := kv_wd (kv_up (kv_up g2 50 (ln + cd1.length) (-(g 52 a))) 49 2 (nI (ln + cd1.length + 1))) w) rfl ?_
              refine kx_st 1 (pc' := 100) (L' := [some (.ref 48), some (.int 3), some (.int (nI op)), some (.int (g 52 a))]) (st' := []) (h' := kv_wd (kv_up (kv_up g2 50 (ln + cd1.length) (-(g 52 a))) 49 2 (nI (ln + cd1.length + 1))) w) rfl ?_
              refine kx_st 1 (pc' := 24) (L' := [some (.ref 48), some (.int 3), some (.int (nI op)), some (.int (g 52 a))]) (st' := []) (h' := kv_wd (kv_up (kv_up g2 50 (ln + cd1.length) (-(g 52 a))) 49 2 (nI (ln + cd1.length + 1))) w) rfl ?_
              have z := hxx2 E d (kv_up (kv_up g2 50 (ln + cd1.length) (-(g 52 a))) 49 2 (nI (ln + cd1.length + 1))) w (ln + cd1.length + 1) (some (.int (g 52 a))) P hE (kx_CS_of hs2 (kx_CR_add hs2 _)) (by omega) (fun g' r => hP g' ?_)
              · exact z
              · rw [← hs.2.2.2.1 a hlt]
                exact kx_CR_u r1 (kx_CR_t r2 (kx_CR_t (kx_CR_add hs2 _) r))
        · intro A B C v
          obtain ⟨wv, hw1, hw2⟩ := hpm A B C
          rcases kx_lv_3.mp hlv with hkey | hkey
          · have hbt : kx_bt tx n a = 43 := by rw [show kx_bt tx n a = tx a from if_pos hlt]; exact hkey
            obtain ⟨v', hv1, hmm⟩ := hmm0 A B C (kx_jn 43 v wv)
            refine ⟨v', fun z st => ?_, ?_⟩
            · rw [kx_ex_app, hw1 rfl (v :: st), kx_ex_app, kx_ex1 hxx.1 hxx.2, hkey]
              exact hv1 z st
            · intro E d g w x2 x3 P hs hP
              refine kx_st 2 (pc' := 9) (L' := [some (.ref 65), some (.int v), x2, x3]) (st' := [.int (g 65 14)]) (h' := kv_wd g w) rfl ?_
              refine kx_bc (t := 81) rfl rfl (fun (h9 : g 65 14 = 0) => ?_) (fun (h9 : ¬ (g 65 14 = 0)) => ?_)
              · exact absurd h9 (by rw [hs.2.2.1]; decide)
              · refine kx_st 0 (pc' := 12) (L' := [some (.ref 65), some (.int v), x2, x3]) (st' := []) (h' := kv_wd g w) rfl ?_
                refine kx_st 3 (pc' := 17) (L' := [some (.ref 65), some (.int v), x2, x3]) (st' := [.int (g 65 8), .ref 65]) (h' := kv_wd g w) rfl ?_
                refine kx_call (z := 155) (as := [.ref 65, .int (g 65 8)]) (rest := []) (v := some (.int 43)) (h1 := kv_wd g w) rfl (by rw [show g 65 8 = nI a from hs.1.2.1]; have z := ev_byteAt (E := E) (d := 0) (w := w) hs n50 u1 a (by omega); rw [hbt] at z; exact kx_ev_le (by omega) z) ?_
                refine kx_st 0 (pc' := 20) (L' := [some (.ref 65), some (.int v), x2, x3]) (st' := [.int 43]) (h' := kv_wd g w) rfl ?_
                refine kx_st 1 (pc' := 22) (L' := [some (.ref 65), some (.int v), x2, x3]) (st' := [.int 43, .int 43]) (h' := kv_wd g w) rfl ?_
                refine kx_st 1 (pc' := 38) (L' := [some (.ref 65), some (.int v), x2, x3]) (st' := []) (h' := kv_wd g w) rfl ?_
                refine kx_st 3 (pc' := 43) (L' := [some (.ref 65), some (.int v), x2, x3]) (st' := [.int (g 65 8), .ref 65]) (h' := kv_wd g w) rfl ?_
                refine kx_call (z := 155) (as := [.ref 65, .int (g 65 8)]) (rest := []) (v := some (.int 43)) (h1 := kv_wd g w) rfl (by rw [show g 65 8 = nI a from hs.1.2.1]; have z := ev_byteAt (E := E) (d := 0) (w := w) hs n50 u1 a (by omega); rw [hbt] at z; exact kx_ev_le (by omega) z) ?_
                refine kx_st 0 (pc' := 46) (L' := [some (.ref 65), some (.int v), x2, x3]) (st' := [.int 43]) (h' := kv_wd g w) rfl ?_
                refine kx_st 6 (pc' := 54) (L' := [some (.ref 65), some (.int v), some (.int 43), x3]) (st' := [.int ((g 65 8) + 1), .ref 65]) (h' := kv_wd g w) rfl ?_
                refine kx_pf (i := 113) (k := 8) (x := ((g 65 8) + 1)) rfl rfl (by decide) rfl (Nat.le_of_ble_eq_true rfl) rfl rfl rfl ?_
                refine kx_st 1 (pc' := 58) (L' := [some (.ref 65), some (.int v), some (.int 43), x3]) (st' := [.ref 65]) (h' := kv_wd (kv_up g 65 8 ((g 65 8) + 1)) w) rfl ?_
                have r1 := kx_RG_up hs (g 65 8 + 1) (by rw [hs.1.2.1, nI_succ])
                obtain ⟨g2, e2, r2⟩ := hw2 E d _ w (kx_RS_of hs r1)
                refine kx_call (z := 161) (as := [.ref 65]) (rest := []) (v := some (.int wv)) (h1 := kv_wd g2 w) rfl e2 ?_
                refine kx_st 0 (pc' := 61) (L' := [some (.ref 65), some (.int v), some (.int 43), x3]) (st' := [.int wv]) (h' := kv_wd g2 w) rfl ?_
                refine kx_st 3 (pc' := 65) (L' := [some (.ref 65), some (.int v), some (.int 43), some (.int wv)]) (st' := [.int 43, .int 43]) (h' := kv_wd g2 w) rfl ?_
                refine kx_st 1 (pc' := 68) (L' := [some (.ref 65), some (.int v), some (.int 43), some (.int wv)]) (st' := []) (h' := kv_wd g2 w) rfl ?_
                refine kx_st 6 (pc' := 5) (L' := [some (.ref 65), some (.int (v + wv)), some (.int 43), some (.int wv)]) (st' := []) (h' := kv_wd g2 w) rfl ?_
                rw [(show v + wv = kx_jn 43 v wv from (show v + wv = v + wv from rfl))]
                exact hmm E d g2 w _ _ P (kx_RS_of (kx_RS_of hs r1) r2) (fun g' r => hP g' (kx_RG_t r1 (kx_RG_t r2 r)))
          · have hbt : kx_bt tx n a = 45 := by rw [show kx_bt tx n a = tx a from if_pos hlt]; exact hkey
            obtain ⟨v', hv1, hmm⟩ := hmm0 A B C (kx_jn 45 v wv)
            refine ⟨v', fun z st => ?_, ?_⟩
            · rw [kx_ex_app, hw1 rfl (v :: st), kx_ex_app, kx_ex1 hxx.1 hxx.2, hkey]
              exact hv1 z st
            · intro E d g w x2 x3 P hs hP
              refine kx_st 2 (pc' := 9) (L' := [some (.ref 65), some (.int v), x2, x3]) (st' := [.int (g 65 14)]) (h' := kv_wd g w) rfl ?_
              refine kx_bc (t := 81) rfl rfl (fun (h9 : g 65 14 = 0) => ?_) (fun (h9 : ¬ (g 65 14 = 0)) => ?_)
              · exact absurd h9 (by rw [hs.2.2.1]; decide)
              · refine kx_st 0 (pc' := 12) (L' := [some (.ref 65), some (.int v), x2, x3]) (st' := []) (h' := kv_wd g w) rfl ?_
                refine kx_st 3 (pc' := 17) (L' := [some (.ref 65), some (.int v), x2, x3]) (st' := [.int (g 65 8), .ref 65]) (h' := kv_wd g w) rfl ?_
                refine kx_call (z := 155) (as := [.ref 65, .int (g 65 8)]) (rest := []) (v := some (.int 45)) (h1 := kv_wd g w) rfl (by rw [show g 65 8 = nI a from hs.1.2.1]; have z := ev_byteAt (E := E) (d := 0) (w := w) hs n50 u1 a (by omega); rw [hbt] at z; exact kx_ev_le (by omega) z) ?_
                refine kx_st 0 (pc' := 20) (L' := [some (.ref 65), some (.int v), x2, x3]) (st' := [.int 45]) (h' := kv_wd g w) rfl ?_
                refine kx_st 1 (pc' := 22) (L' := [some (.ref 65), some (.int v), x2, x3]) (st' := [.int 43, .int 45]) (h' := kv_wd g w) rfl ?_
                refine kx_st 1 (pc' := 25) (L' := [some (.ref 65), some (.int v), x2, x3]) (st' := []) (h' := kv_wd g w) rfl ?_
                refine kx_st 3 (pc' := 30) (L' := [some (.ref 65), some (.int v), x2, x3]) (st' := [.int (g 65 8), .ref 65]) (h' := kv_wd g w) rfl ?_
                refine kx_call (z := 155) (as := [.ref 65, .int (g 65 8)]) (rest := []) (v := some (.int 45)) (h1 := kv_wd g w) rfl (by rw [show g 65 8 = nI a from hs.1.2.1]; have z := ev_byteAt (E := E) (d := 0) (w := w) hs n50 u1 a (by omega); rw [hbt] at z; exact kx_ev_le (by omega) z) ?_
                refine kx_st 0 (pc' := 33) (L' := [some (.ref 65), some (.int v), x2, x3]) (st' := [.int 45]) (h' := kv_wd g w) rfl ?_
                refine kx_st 1 (pc' := 35) (L' := [some (.ref 65), some (.int v), x2, x3]) (st' := [.int 45, .int 45]) (h' := kv_wd g w) rfl ?_
                refine kx_st 1 (pc' := 38) (L' := [some (.ref 65), some (.int v), x2, x3]) (st' := []) (h' := kv_wd g w) rfl ?_
                refine kx_st 3 (pc' := 43) (L' := [some (.ref 65), some (.int v), x2, x3]) (st' := [.int (g 65 8), .ref 65]) (h' := kv_wd g w) rfl ?_
                refine kx_call (z := 155) (as := [.ref 65, .int (g 65 8)]) (rest := []) (v := some (.int 45)) (h1 := kv_wd g w) rfl (by rw [show g 65 8 = nI a from hs.1.2.1]; have z := ev_byteAt (E := E) (d := 0) (w := w) hs n50 u1 a (by omega); rw [hbt] at z; exact kx_ev_le (by omega) z) ?_
                refine kx_st 0 (pc' := 46) (L' := [some (.ref 65), some (.int v), x2, x3]) (st' := [.int 45]) (h' := kv_wd g w) rfl ?_
                refine kx_st 6 (pc' := 54) (L' := [some (.ref 65), some (.int v), some (.int 45), x3]) (st' := [.int ((g 65 8) + 1), .ref 65]) (h' := kv_wd g w) rfl ?_
                refine kx_pf (i := 113) (k := 8) (x := ((g 65 8) + 1)) rfl rfl (by decide) rfl (Nat.le_of_ble_eq_true rfl) rfl rfl rfl ?_
                refine kx_st 1 (pc' := 58) (L' := [some (.ref 65), some (.int v), some (.int 45), x3]) (st' := [.ref 65]) (h' := kv_wd (kv_up g 65 8 ((g 65 8) + 1)) w) rfl ?_
                have r1 := kx_RG_up hs (g 65 8 + 1) (by rw [hs.1.2.1, nI_succ])
                obtain ⟨g2, e2, r2⟩ := hw2 E d _ w (kx_RS_of hs r1)
                refine kx_call (z := 161) (as := [.ref 65]) (rest := []) (v := some (.int wv)) (h1 := kv_wd g2 w) rfl e2 ?_
                refine kx_st 0 (pc' := 61) (L' := [some (.ref 65), some (.int v), some (.int 45), x3]) (st' := [.int wv]) (h' := kv_wd g2 w) rfl ?_
                refine kx_st 3 (pc' := 65) (L' := [some (.ref 65), some (.int v), some (.int 45), some (.int wv)]) (st' := [.int 43, .int 45]) (h' := kv_wd g2 w) rfl ?_
                refine kx_st 1 (pc' := 74) (L' := [some (.ref 65), some (.int v), some (.int 45), some (.int wv)]) (st' := []) (h' := kv_wd g2 w) rfl ?_
                refine kx_st 5 (pc' := 5) (L' := [some (.ref 65), some (.int (v - wv)), some (.int 45), some (.int wv)]) (st' := []) (h' := kv_wd g2 w) rfl ?_
                rw [(show v - wv = kx_jn 45 v wv from (show v - wv = v - wv from rfl))]
                exact hmm E d g2 w _ _ P (kx_RS_of (kx_RS_of hs r1) r2) (fun g' r => hP g' (kx_RG_t r1 (kx_RG_t r2 r)))
      | false =>
        refine ⟨false, a2, [], ⟨⟨by omega, hb1.1.2⟩, fun z => nomatch z⟩, ?_, ?_⟩
        · intro E d g w ln x3 P hE hs hln hP
          refine kx_st 4 (pc' := 32) (L' := [some (.ref 48), some (.int 3), some (.int (nI op)), x3]) (st' := [.int (g 48 2), .int (g 48 3)]) (h' := kv_wd g w) rfl ?_
          refine kx_bi (t := 103) rfl rfl (fun (h32 : g 48 2 ≤ g 48 3) => ?_) (fun (h32 : ¬ (g 48 2 ≤ g 48 3)) => ?_)
          · exact absurd h32 (by rw [hs.2.1, hs.1]; exact nI_ge (a := a) (b := n) hlt (by omega))
          · refine kx_st 0 (pc' := 35) (L' := [some (.ref 48), some (.int 3), some (.int (nI op)), x3]) (st' := []) (h' := kv_wd g w) rfl ?_
            refine kx_st 4 (pc' := 43) (L' := [some (.ref 48), some (.int 3), some (.int (nI op)), x3]) (st' := [.int (g 48 3), .ref 52]) (h' := kv_wd g w) rfl ?_
            refine kx_ia (k := a) rfl rfl (by decide) hs.2.1 (by omega) (by decide) ?_
            refine kx_call (z := 48) (as := [.int (g 52 a)]) (rest := []) (v := some (.int (kx_lv (g 52 a)))) (h1 := kv_wd g w) rfl (kx_ev_le (d := 0 + 1) (by omega) (ev_levelOf (d := 0) _)) ?_
            refine kx_st 0 (pc' := 47) (L' := [some (.ref 48), some (.int 3), some (.int (nI op)), x3]) (st' := [.int (kx_lv (g 52 a))]) (h' := kv_wd g w) rfl ?_
            refine kx_st 1 (pc' := 48) (L' := [some (.ref 48), some (.int 3), some (.int (nI op)), x3]) (st' := [.int 3, .int (kx_lv (g 52 a))]) (h' := kv_wd g w) rfl ?_
            refine kx_bi (t := 103) rfl rfl (fun (h48 : ¬ kx_lv (g 52 a) = 3) => ?_) (fun (h48 : ¬ (¬ kx_lv (g 52 a) = 3)) => ?_)
            · exact absurd (by rw [hs.2.2.2.1 a hlt]; exact hlv) h48
            · refine kx_st 0 (pc' := 51) (L' := [some (.ref 48), some (.int 3), some (.int (nI op)), x3]) (st' := []) (h' := kv_wd g w) rfl ?_
              refine kx_st 4 (pc' := 59) (L' := [some (.ref 48), some (.int 3), some (.int (nI op)), x3]) (st' := [.int (g 48 3), .ref 52]) (h' := kv_wd g w) rfl ?_
              refine kx_ia (k := a) rfl rfl (by decide) hs.2.1 (by omega) (by decide) ?_
              refine kx_st 6 (pc' := 68) (L' := [some (.ref 48), some (.int 3), some (.int (nI op)), some (.int (g 52 a))]) (st' := [.int ((g 48 3) + 1), .ref 48]) (h' := kv_wd g w) rfl ?_
              refine kx_pf (i := 28) (k := 3) (x := ((g 48 3) + 1)) rfl rfl (by decide) rfl (Nat.le_of_ble_eq_true rfl) rfl rfl rfl ?_
              refine kx_st 5 (pc' := 76) (L' := [some (.ref 48), some (.int 3), some (.int (nI op)), some (.int (g 52 a))]) (st' := [.int (nI op), .int 4, .ref 48]) (h' := kv_wd (kv_up g 48 3 ((g 48 3) + 1)) w) rfl ?_
              have r1 := (kx_CR_up hs (g 48 3 + 1) (by rw [hs.2.1, nI_succ]))
              obtain ⟨g2, e2, r2⟩ := hpx E d _ w ln hE (kx_CS_u hs r1) (by omega)
              refine kx_call (z := 47) (as := [.ref 48, .int 4, .int (nI op)]) (rest := []) (v := some (.int 0)) (h1 := kv_wd g2 w) rfl e2 ?_
              refine kx_st 0 (pc' := 79) (L' := [some (.ref 48), some (.int 3), some (.int (nI op)), some (.int (g 52 a))]) (st' := [.int 0]) (h' := kv_wd g2 w) rfl ?_
              refine kx_st 1 (pc' := 82) (L' := [some (.ref 48), some (.int 3), some (.int (nI op)), some (.int (g 52 a))]) (st' := []) (h' := kv_wd g2 w) rfl ?_
              refine kx_st 1 (pc' := 83) (L' := [some (.ref 48), some (.int 3), some (.int (nI op)), some (.int (g 52 a))]) (st' := [.int 0]) (h' := kv_wd g2 w) rfl ?_
              refine kx_ret (v := some (.int 0)) rfl ?_
              exact hP g2 (kx_CR_f r1 r2)
        · intro A B C v
          obtain ⟨wv, hw1, hw2⟩ := hpm A B C
          rcases kx_lv_3.mp hlv with hkey | hkey
          · have hbt : kx_bt tx n a = 43 := by rw [show kx_bt tx n a = tx a from if_pos hlt]; exact hkey
            refine ⟨kx_jn 43 v wv, (fun z => nomatch z), ?_⟩
            intro E d g w x2 x3 P hs hP
            refine kx_st 2 (pc' := 9) (L' := [some (.ref 65), some (.int v), x2, x3]) (st' := [.int (g 65 14)]) (h' := kv_wd g w) rfl ?_
            refine kx_bc (t := 81) rfl rfl (fun (h9 : g 65 14 = 0) => ?_) (fun (h9 : ¬ (g 65 14 = 0)) => ?_)
            · exact absurd h9 (by rw [hs.2.2.1]; decide)
            · refine kx_st 0 (pc' := 12) (L' := [some (.ref 65), some (.int v), x2, x3]) (st' := []) (h' := kv_wd g w) rfl ?_
              refine kx_st 3 (pc' := 17) (L' := [some (.ref 65), some (.int v), x2, x3]) (st' := [.int (g 65 8), .ref 65]) (h' := kv_wd g w) rfl ?_
              refine kx_call (z := 155) (as := [.ref 65, .int (g 65 8)]) (rest := []) (v := some (.int 43)) (h1 := kv_wd g w) rfl (by rw [show g 65 8 = nI a from hs.1.2.1]; have z := ev_byteAt (E := E) (d := 0) (w := w) hs n50 u1 a (by omega); rw [hbt] at z; exact kx_ev_le (by omega) z) ?_
              refine kx_st 0 (pc' := 20) (L' := [some (.ref 65), some (.int v), x2, x3]) (st' := [.int 43]) (h' := kv_wd g w) rfl ?_
              refine kx_st 1 (pc' := 22) (L' := [some (.ref 65), some (.int v), x2, x3]) (st' := [.int 43, .int 43]) (h' := kv_wd g w) rfl ?_
              refine kx_st 1 (pc' := 38) (L' := [some (.ref 65), some (.int v), x2, x3]) (st' := []) (h' := kv_wd g w) rfl ?_
              refine kx_st 3 (pc' := 43) (L' := [some (.ref 65), some (.int v), x2, x3]) (st' := [.int (g 65 8), .ref 65]) (h' := kv_wd g w) rfl ?_
              refine kx_call (z := 155) (as := [.ref 65, .int (g 65 8)]) (rest := []) (v := some (.int 43)) (h1 := kv_wd g w) rfl (by rw [show g 65 8 = nI a from hs.1.2.1]; have z := ev_byteAt (E := E) (d := 0) (w := w) hs n50 u1 a (by omega); rw [hbt] at z; exact kx_ev_le (by omega) z) ?_
              refine kx_st 0 (pc' := 46) (L' := [some (.ref 65), some (.int v), x2, x3]) (st' := [.int 43]) (h' := kv_wd g w) rfl ?_
              refine kx_st 6 (pc' := 54) (L' := [some (.ref 65), some (.int v), some (.int 43), x3]) (st' := [.int ((g 65 8) + 1), .ref 65]) (h' := kv_wd g w) rfl ?_
              refine kx_pf (i := 113) (k := 8) (x := ((g 65 8) + 1)) rfl rfl (by decide) rfl (Nat.le_of_ble_eq_true rfl) rfl rfl rfl ?_
              refine kx_st 1 (pc' := 58) (L' := [some (.ref 65), some (.int v), some (.int 43), x3]) (st' := [.ref 65]) (h' := kv_wd (kv_up g 65 8 ((g 65 8) + 1)) w) rfl ?_
              have r1 := kx_RG_up hs (g 65 8 + 1) (by rw [hs.1.2.1, nI_succ])
              obtain ⟨g2, e2, r2⟩ := hw2 E d _ w (kx_RS_of hs r1)
              refine kx_call (z := 161) (as := [.ref 65]) (rest := []) (v := some (.int wv)) (h1 := kv_wd g2 w) rfl e2 ?_
              refine kx_st 0 (pc' := 61) (L' := [some (.ref 65), some (.int v), some (.int 43), x3]) (st' := [.int wv]) (h' := kv_wd g2 w) rfl ?_
              refine kx_st 3 (pc' := 65) (L' := [some (.ref 65), some (.int v), some (.int 43), some (.int wv)]) (st' := [.int 43, .int 43]) (h' := kv_wd g2 w) rfl ?_
              refine kx_st 1 (pc' := 68) (L' := [some (.ref 65), some (.int v), some (.int 43), some (.int wv)]) (st' := []) (h' := kv_wd g2 w) rfl ?_
              refine kx_st 6 (pc' := 5) (L' := [some (.ref 65), some (.int (v + wv)), some (.int 43), some (.int wv)]) (st' := []) (h' := kv_wd g2 w) rfl ?_
              rw [(show v + wv = kx_jn 43 v wv from (show v + wv = v + wv from rfl))]
              refine kx_st 2 (pc' := 9) (L' := [some (.ref 65), some (.int (kx_jn 43 v wv)), some (.int 43), some (.int wv)]) (st' := [.int (g2 65 14)]) (h' := kv_wd g2 w) rfl ?_
              refine kx_bc (t := 81) rfl rfl (fun (y9 : g2 65 14 = 0) => ?_) (fun (y9 : ¬ (g2 65 14 = 0)) => ?_)
              · refine kx_st 1 (pc' := 82) (L' := [some (.ref 65), some (.int (kx_jn 43 v wv)), some (.int 43), some (.int wv)]) (st' := [.int (kx_jn 43 v wv)]) (h' := kv_wd g2 w) rfl ?_
                refine kx_ret (v := some (.int (kx_jn 43 v wv))) rfl ?_
                exact hP g2 (kx_RG_t r1 r2)
              · exact absurd (show g2 65 14 = 0 by rw [r2.2.2.2.1]; rfl) y9
          · have hbt : kx_bt tx n a = 45 := by rw [show kx_bt tx n a = tx a from if_pos hlt]; exact hkey
            refine ⟨kx_jn 45 v wv, (fun z => nomatch z), ?_⟩
            intro E d g w x2 x3 P hs hP
            refine kx_st 2 (pc' := 9) (L' := [some (.ref 65), some (.int v), x2, x3]) (st' := [.int (g 65 14)]) (h' := kv_wd g w) rfl ?_
            refine kx_bc (t := 81) rfl rfl (fun (h9 : g 65 14 = 0) => ?_) (fun (h9 : ¬ (g 65 14 = 0)) => ?_)
            · exact absurd h9 (by rw [hs.2.2.1]; decide)
            · refine kx_st 0 (pc' := 12) (L' := [some (.ref 65), some (.int v), x2, x3]) (st' := []) (h' := kv_wd g w) rfl ?_
              refine kx_st 3 (pc' := 17) (L' := [some (.ref 65), some (.int v), x2, x3]) (st' := [.int (g 65 8), .ref 65]) (h' := kv_wd g w) rfl ?_
              refine kx_call (z := 155) (as := [.ref 65, .int (g 65 8)]) (rest := []) (v := some (.int 45)) (h1 := kv_wd g w) rfl (by rw [show g 65 8 = nI a from hs.1.2.1]; have z := ev_byteAt (E := E) (d := 0) (w := w) hs n50 u1 a (by omega); rw [hbt] at z; exact kx_ev_le (by omega) z) ?_
              refine kx_st 0 (pc' := 20) (L' := [some (.ref 65), some (.int v), x2, x3]) (st' := [.int 45]) (h' := kv_wd g w) rfl ?_
              refine kx_st 1 (pc' := 22) (L' := [some (.ref 65), some (.int v), x2, x3]) (st' := [.int 43, .int 45]) (h' := kv_wd g w) rfl ?_
              refine kx_st 1 (pc' := 25) (L' := [some (.ref 65), some (.int v), x2, x3]) (st' := []) (h' := kv_wd g w) rfl ?_
              refine kx_st 3 (pc' := 30) (L' := [some (.ref 65), some (.int v), x2, x3]) (st' := [.int (g 65 8), .ref 65]) (h' := kv_wd g w) rfl ?_
              refine kx_call (z := 155) (as := [.ref 65, .int (g 65 8)]) (rest := []) (v := some (.int 45)) (h1 := kv_wd g w) rfl (by rw [show g 65 8 = nI a from hs.1.2.1]; have z := ev_byteAt (E := E) (d := 0) (w := w) hs n50 u1 a (by omega); rw [hbt] at z; exact kx_ev_le (by omega) z) ?_
              refine kx_st 0 (pc' := 33) (L' := [some (.ref 65), some (.int v), x2, x3]) (st' := [.int 45]) (h' := kv_wd g w) rfl ?_
              refine kx_st 1 (pc' := 35) (L' := [some (.ref 65), some (.int v), x2, x3]) (st' := [.int 45, .int 45]) (h' := kv_wd g w) rfl ?_
              refine kx_st 1 (pc' := 38) (L' := [some (.ref 65), some (.int v), x2, x3]) (st' := []) (h' := kv_wd g w) rfl ?_
              refine kx_st 3 (pc' := 43) (L' := [some (.ref 65), some (.int v), x2, x3]) (st' := [.int (g 65 8), .ref 65]) (h' := kv_wd g w) rfl ?_
              refine kx_call (z := 155) (as := [.ref 65, .int (g 65 8)]) (rest := []) (v := some (.int 45)) (h1 := kv_wd g w) rfl (by rw [show g 65 8 = nI a from hs.1.2.1]; have z := ev_byteAt (E := E) (d := 0) (w := w) hs n50 u1 a (by omega); rw [hbt] at z; exact kx_ev_le (by omega) z) ?_
              refine kx_st 0 (pc' := 46) (L' := [some (.ref 65), some (.int v), x2, x3]) (st' := [.int 45]) (h' := kv_wd g w) rfl ?_
              refine kx_st 6 (pc' := 54) (L' := [some (.ref 65), some (.int v), some (.int 45), x3]) (st' := [.int ((g 65 8) + 1), .ref 65]) (h' := kv_wd g w) rfl ?_
              refine kx_pf (i := 113) (k := 8) (x := ((g 65 8) + 1)) rfl rfl (by decide) rfl (Nat.le_of_ble_eq_true rfl) rfl rfl rfl ?_
              refine kx_st 1 (pc' := 58) (L' := [some (.ref 65), some (.int v), some (.int 45), x3]) (st' := [.ref 65]) (h' := kv_wd (kv_up g 65 8 ((g 65 8) + 1)) w) rfl ?_
              have r1 := kx_RG_up hs (g 65 8 + 1) (by rw [hs.1.2.1, nI_succ])
              obtain ⟨g2, e2, r2⟩ := hw2 E d _ w (kx_RS_of hs r1)
              refine kx_call (z := 161) (as := [.ref 65]) (rest := []) (v := some (.int wv)) (h1 := kv_wd g2 w) rfl e2 ?_
              refine kx_st 0 (pc' := 61) (L' := [some (.ref 65), some (.int v), some (.int 45), x3]) (st' := [.int wv]) (h' := kv_wd g2 w) rfl ?_
              refine kx_st 3 (pc' := 65) (L' := [some (.ref 65), some (.int v), some (.int 45), some (.int wv)]) (st' := [.int 43, .int 45]) (h' := kv_wd g2 w) rfl ?_
              refine kx_st 1 (pc' := 74) (L' := [some (.ref 65), some (.int v), some (.int 45), some (.int wv)]) (st' := []) (h' := kv_wd g2 w) rfl ?_
              refine kx_st 5 (pc' := 5) (L' := [some (.ref 65), some (.int (v - wv)), some (.int 45), some (.int wv)]) (st' := []) (h' := kv_wd g2 w) rfl ?_
              rw [(show v - wv = kx_jn 45 v wv from (show v - wv = v - wv from rfl))]
              refine kx_st 2 (pc' := 9) (L' := [some (.ref 65), some (.int (kx_jn 45 v wv)), some (.int 45), some (.int wv)]) (st' := [.int (g2 65 14)]) (h' := kv_wd g2 w) rfl ?_
              refine kx_bc (t := 81) rfl rfl (fun (y9 : g2 65 14 = 0) => ?_) (fun (y9 : ¬ (g2 65 14 = 0)) => ?_)
              · refine kx_st 1 (pc' := 82) (L' := [some (.ref 65), some (.int (kx_jn 45 v wv)), some (.int 45), some (.int wv)]) (st' := [.int (kx_jn 45 v wv)]) (h' := kv_wd g2 w) rfl ?_
                refine kx_ret (v := some (.int (kx_jn 45 v wv))) rfl ?_
                exact hP g2 (kx_RG_t r1 r2)
              · exact absurd (show g2 65 14 = 0 by rw [r2.2.2.2.1]; rfl) y9
    · refine ⟨true, a, [], ⟨⟨Nat.le_refl _, han⟩, fun _ => ⟨by simp, by show 2 * 0 ≤ _; omega⟩⟩, ?_, ?_⟩
      · intro E d g w ln x3 P hE hs hln hP
        refine kx_st 4 (pc' := 32) (L' := [some (.ref 48), some (.int 3), some (.int (nI op)), x3]) (st' := [.int (g 48 2), .int (g 48 3)]) (h' := kv_wd g w) rfl ?_
        refine kx_bi (t := 103) rfl rfl (fun (h32 : g 48 2 ≤ g 48 3) => ?_) (fun (h32 : ¬ (g 48 2 ≤ g 48 3)) => ?_)
        · refine kx_st 1 (pc' := 104) (L' := [some (.ref 48), some (.int 3), some (.int (nI op)), x3]) (st' := [.int 1]) (h' := kv_wd g w) rfl ?_
          refine kx_ret (v := some (.int 1)) rfl ?_
          exact hP g (kx_CR_0 hs true)
        · refine kx_st 0 (pc' := 35) (L' := [some (.ref 48), some (.int 3), some (.int (nI op)), x3]) (st' := []) (h' := kv_wd g w) rfl ?_
          refine kx_st 4 (pc' := 43) (L' := [some (.ref 48), some (.int 3), some (.int (nI op)), x3]) (st' := [.int (g 48 3), .ref 52]) (h' := kv_wd g w) rfl ?_
          refine kx_ia (k := a) rfl rfl (by decide) hs.2.1 (by have : a < n := (fun z => Classical.not_not.mp (fun y => z (by rw [hs.2.1, hs.1]; exact nI_le (by omega) (by omega)))) h32; omega) (by decide) ?_
          refine kx_call (z := 48) (as := [.int (g 52 a)]) (rest := []) (v := some (.int (kx_lv (g 52 a)))) (h1 := kv_wd g w) rfl (kx_ev_le (d := 0 + 1) (by omega) (ev_levelOf (d := 0) _)) ?_
          refine kx_st 0 (pc' := 47) (L' := [some (.ref 48), some (.int 3), some (.int (nI op)), x3]) (st' := [.int (kx_lv (g 52 a))]) (h' := kv_wd g w) rfl ?_
          refine kx_st 1 (pc' := 48) (L' := [some (.ref 48), some (.int 3), some (.int (nI op)), x3]) (st' := [.int 3, .int (kx_lv (g 52 a))]) (h' := kv_wd g w) rfl ?_
          refine kx_bi (t := 103) rfl rfl (fun (h48 : ¬ kx_lv (g 52 a) = 3) => ?_) (fun (h48 : ¬ (¬ kx_lv (g 52 a) = 3)) => ?_)
          · refine kx_st 1 (pc' := 104) (L' := [some (.ref 48), some (.int 3), some (.int (nI op)), x3]) (st' := [.int 1]) (h' := kv_wd g w) rfl ?_
            refine kx_ret (v := some (.int 1)) rfl ?_
            exact hP g (kx_CR_0 hs true)
          · exact absurd ⟨(fun z => Classical.not_not.mp (fun y => z (by rw [hs.2.1, hs.1]; exact nI_le (by omega) (by omega)))) h32, by rw [← hs.2.2.2.1 a ((fun z => Classical.not_not.mp (fun y => z (by rw [hs.2.1, hs.1]; exact nI_le (by omega) (by omega)))) h32)]; exact Classical.not_not.mp h48⟩ hk
      · intro A B C v
        refine ⟨v, fun _ st => rfl, ?_⟩
        intro E d g w x2 x3 P hs hP
        refine kx_st 2 (pc' := 9) (L' := [some (.ref 65), some (.int v), x2, x3]) (st' := [.int (g 65 14)]) (h' := kv_wd g w) rfl ?_
        refine kx_bc (t := 81) rfl rfl (fun (h9 : g 65 14 = 0) => ?_) (fun (h9 : ¬ (g 65 14 = 0)) => ?_)
        · exact absurd h9 (by rw [hs.2.2.1]; decide)
        · refine kx_st 0 (pc' := 12) (L' := [some (.ref 65), some (.int v), x2, x3]) (st' := []) (h' := kv_wd g w) rfl ?_
          refine kx_st 3 (pc' := 17) (L' := [some (.ref 65), some (.int v), x2, x3]) (st' := [.int (g 65 8), .ref 65]) (h' := kv_wd g w) rfl ?_
          refine kx_call (z := 155) (as := [.ref 65, .int (g 65 8)]) (rest := []) (v := some (.int (kx_bt tx n a))) (h1 := kv_wd g w) rfl (by rw [show g 65 8 = nI a from hs.1.2.1]; exact kx_ev_le (d := 0 + 1) (by omega) (ev_byteAt (d := 0) hs n50 u1 a (by omega))) ?_
          refine kx_st 0 (pc' := 20) (L' := [some (.ref 65), some (.int v), x2, x3]) (st' := [.int (kx_bt tx n a)]) (h' := kv_wd g w) rfl ?_
          refine kx_st 1 (pc' := 22) (L' := [some (.ref 65), some (.int v), x2, x3]) (st' := [.int 43, .int (kx_bt tx n a)]) (h' := kv_wd g w) rfl ?_
          refine kx_bi (t := 38) rfl rfl (fun (h22 : kx_bt tx n a = 43) => ?_) (fun (h22 : ¬ (kx_bt tx n a = 43)) => ?_)
          · exact absurd h22 (kx_bn_43 hk)
          · refine kx_st 0 (pc' := 25) (L' := [some (.ref 65), some (.int v), x2, x3]) (st' := []) (h' := kv_wd g w) rfl ?_
            refine kx_st 3 (pc' := 30) (L' := [some (.ref 65), some (.int v), x2, x3]) (st' := [.int (g 65 8), .ref 65]) (h' := kv_wd g w) rfl ?_
            refine kx_call (z := 155) (as := [.ref 65, .int (g 65 8)]) (rest := []) (v := some (.int (kx_bt tx n a))) (h1 := kv_wd g w) rfl (by rw [show g 65 8 = nI a from hs.1.2.1]; exact kx_ev_le (d := 0 + 1) (by omega) (ev_byteAt (d := 0) hs n50 u1 a (by omega))) ?_
            refine kx_st 0 (pc' := 33) (L' := [some (.ref 65), some (.int v), x2, x3]) (st' := [.int (kx_bt tx n a)]) (h' := kv_wd g w) rfl ?_
            refine kx_st 1 (pc' := 35) (L' := [some (.ref 65), some (.int v), x2, x3]) (st' := [.int 45, .int (kx_bt tx n a)]) (h' := kv_wd g w) rfl ?_
            refine kx_bi (t := 81) rfl rfl (fun (h35 : ¬ kx_bt tx n a = 45) => ?_) (fun (h35 : ¬ (¬ kx_bt tx n a = 45)) => ?_)
            · refine kx_st 1 (pc' := 82) (L' := [some (.ref 65), some (.int v), x2, x3]) (st' := [.int v]) (h' := kv_wd g w) rfl ?_
              refine kx_ret (v := some (.int v)) rfl ?_
              exact hP g (kx_RG_0 hs)
            · exact absurd (Classical.not_not.mp h35) (kx_bn_45 hk)
set_option maxRecDepth 100000 in
theorem kx_pl_3 {tx : Nat → Int32} {n u op : Nat} (n50 : n ≤ 50) (u1 : u ≤ 1) (hn : ∀ a, a ≤ n → kx_PL tx n u 4 5 161 op a) : ∀ a, a ≤ n → kx_PL tx n u 3 6 162 op a := by
  intro a han
  obtain ⟨ok1, a2, cd1, hb1, hpx, hpm⟩ := hn a han
  have hbb := hb1.1
  cases ok1 with
  | false =>
    refine ⟨false, a2, [], ⟨hbb, fun z => nomatch z⟩, ?_, ?_⟩
    · intro E d g w ln hE hs hln
      obtain ⟨v0, hf, he, rfl, g', rfl, hh⟩ := kx_evP (E := E) (d := d + (8 * (5 - op) + 5)) (y := 47) (h := kv_wd g w) (as := [.ref 48, .int 3, .int (nI op)]) (P := fun v0 h => v0 = (some (.int 0) : Option Value) ∧ ∃ g' : kv_S, h = kv_wd g' w ∧ kx_CR g g' a2 false ln []) (by decide) (Nat.le_of_ble_eq_true rfl) (by
        refine kx_st 0 (pc' := 0) (L' := [some (.ref 48), some (.int 3), some (.int (nI op)), none]) (st' := []) (h' := kv_wd g w) rfl ?_
        refine kx_st 2 (pc' := 2) (L' := [some (.ref 48), some (.int 3), some (.int (nI op)), none]) (st' := [.int 5, .int 3]) (h' := kv_wd g w) rfl ?_
        refine kx_st 1 (pc' := 11) (L' := [some (.ref 48), some (.int 3), some (.int (nI op)), none]) (st' := []) (h' := kv_wd g w) rfl ?_
        refine kx_st 5 (pc' := 16) (L' := [some (.ref 48), some (.int 3), some (.int (nI op)), none]) (st' := [.int (nI op), .int 4, .ref 48]) (h' := kv_wd g w) rfl ?_
        obtain ⟨g2, e2, r2⟩ := hpx E d g w ln hE hs hln
        refine kx_call (z := 47) (as := [.ref 48, .int 4, .int (nI op)]) (rest := []) (v := some (.int 0)) (h1 := kv_wd g2 w) rfl e2 ?_
        refine kx_st 0 (pc' := 19) (L' := [some (.ref 48), some (.int 3), some (.int (nI op)), none]) (st' := [.int 0]) (h' := kv_wd g2 w) rfl ?_
        refine kx_st 1 (pc' := 22) (L' := [some (.ref 48), some (.int 3), some (.int (nI op)), none]) (st' := []) (h' := kv_wd g2 w) rfl ?_
        refine kx_st 1 (pc' := 23) (L' := [some (.ref 48), some (.int 3), some (.int (nI op)), none]) (st' := [.int 0]) (h' := kv_wd g2 w) rfl ?_
        refine kx_ret (v := some (.int 0)) rfl ?_
        exact ⟨rfl, _, rfl, r2.1, r2.2.1, r2.2.2.1, fun z => nomatch z⟩)
      exact ⟨g', kx_ev_le (by omega) he, hh⟩
    · intro A B C
      obtain ⟨v, hv1, hv2⟩ := hpm A B C
      refine ⟨v, (fun z => nomatch z), ?_⟩
      intro E d g w hs
      obtain ⟨v0, hf, he, rfl, g', rfl, hh⟩ := kx_evP (E := E) (d := d + (6 * (5 - op) + 5)) (y := 162) (h := kv_wd g w) (as := [.ref 65]) (P := fun v0 h => v0 = (some (.int v) : Option Value) ∧ ∃ g' : kv_S, h = kv_wd g' w ∧ kx_RG g g' a2 op false) (by decide) (Nat.le_of_ble_eq_true rfl) (by
        refine kx_st 0 (pc' := 0) (L' := [some (.ref 65), none, none, none]) (st' := []) (h' := kv_wd g w) rfl ?_
        refine kx_st 1 (pc' := 1) (L' := [some (.ref 65), none, none, none]) (st' := [.ref 65]) (h' := kv_wd g w) rfl ?_
        obtain ⟨g2, e2, r2⟩ := hv2 E d g w hs
        refine kx_call (z := 161) (as := [.ref 65]) (rest := []) (v := some (.int v)) (h1 := kv_wd g2 w) rfl e2 ?_
        refine kx_st 0 (pc' := 4) (L' := [some (.ref 65), none, none, none]) (st' := [.int v]) (h' := kv_wd g2 w) rfl ?_
        refine kx_st 3 (pc' := 9) (L' := [some (.ref 65), some (.int v), none, none]) (st' := [.int (g2 65 14)]) (h' := kv_wd g2 w) rfl ?_
        refine kx_bc (t := 81) rfl rfl (fun (h9 : g2 65 14 = 0) => ?_) (fun (h9 : ¬ (g2 65 14 = 0)) => ?_)
        · refine kx_st 1 (pc' := 82) (L' := [some (.ref 65), some (.int v), none, none]) (st' := [.int v]) (h' := kv_wd g2 w) rfl ?_
          refine kx_ret (v := some (.int v)) rfl ?_
          exact ⟨rfl, _, rfl, r2⟩
        · exact absurd (show g2 65 14 = 0 by rw [r2.2.2.2.1]; rfl) h9)
      exact ⟨g', kx_ev_le (by omega) he, hh⟩
  | true =>
    obtain ⟨ok, a3, tl, hbt0, hxx2, hmm0⟩ := kx_tl_3 n50 u1 hn (n - a2) a2 (Nat.le_refl _) (by omega)
    have q1 := hb1.2 rfl
    refine ⟨ok, a3, cd1 ++ tl, ⟨⟨by have := hbt0.1; omega, hbt0.1.2⟩, fun z => ?_⟩, ?_, ?_⟩
    · have q2 := hbt0.2 z
      have q3 := hbt0.1
      rw [List.length_append, kx_nv_app]
      omega
    · intro E d g w ln hE hs hln
      obtain ⟨v0, hf, he, rfl, g', rfl, hh⟩ := kx_evP (E := E) (d := d + (8 * (5 - op) + 5)) (y := 47) (h := kv_wd g w) (as := [.ref 48, .int 3, .int (nI op)]) (P := fun v0 h => v0 = (some (.int (kx_ob ok)) : Option Value) ∧ ∃ g' : kv_S, h = kv_wd g' w ∧ kx_CR g g' a3 ok ln (cd1 ++ tl)) (by decide) (Nat.le_of_ble_eq_true rfl) (by
        refine kx_st 0 (pc' := 0) (L' := [some (.ref 48), some (.int 3), some (.int (nI op)), none]) (st' := []) (h' := kv_wd g w) rfl ?_
        refine kx_st 2 (pc' := 2) (L' := [some (.ref 48), some (.int 3), some (.int (nI op)), none]) (st' := [.int 5, .int 3]) (h' := kv_wd g w) rfl ?_
        refine kx_st 1 (pc' := 11) (L' := [some (.ref 48), some (.int 3), some (.int (nI op)), none]) (st' := []) (h' := kv_wd g w) rfl ?_
        refine kx_st 5 (pc' := 16) (L' := [some (.ref 48), some (.int 3), some (.int (nI op)), none]) (st' := [.int (nI op), .int 4, .ref 48]) (h' := kv_wd g w) rfl ?_
        obtain ⟨g2, e2, r2⟩ := hpx E d g w ln hE hs hln
        refine kx_call (z := 47) (as := [.ref 48, .int 4, .int (nI op)]) (rest := []) (v := some (.int 1)) (h1 := kv_wd g2 w) rfl e2 ?_
        refine kx_st 0 (pc' := 19) (L' := [some (.ref 48), some (.int 3), some (.int (nI op)), none]) (st' := [.int 1]) (h' := kv_wd g2 w) rfl ?_
        refine kx_st 1 (pc' := 24) (L' := [some (.ref 48), some (.int 3), some (.int (nI op)), none]) (st' := []) (h' := kv_wd g2 w) rfl ?_
        exact hxx2 E d g2 w (ln + cd1.length) none _ hE (kx_CS_of hs r2) (by omega) (fun g' r => ⟨rfl, g', rfl, kx_CR_t r2 r⟩))
      exact ⟨g', kx_ev_le (by omega) he, hh⟩
    · intro A B C
      obtain ⟨v, hv1, hv2⟩ := hpm A B C
      obtain ⟨v', hv3, hmm⟩ := hmm0 A B C v
      refine ⟨v', fun z st => ?_, ?_⟩
      · rw [kx_ex_app, hv1 rfl st]; exact hv3 z st
      · intro E d g w hs
        obtain ⟨v0, hf, he, rfl, g', rfl, hh⟩ := kx_evP (E := E) (d := d + (6 * (5 - op) + 5)) (y := 162) (h := kv_wd g w) (as := [.ref 65]) (P := fun v0 h => v0 = (some (.int v') : Option Value) ∧ ∃ g' : kv_S, h = kv_wd g' w ∧ kx_RG g g' a3 op ok) (by decide) (Nat.le_of_ble_eq_true rfl) (by
          refine kx_st 0 (pc' := 0) (L' := [some (.ref 65), none, none, none]) (st' := []) (h' := kv_wd g w) rfl ?_
          refine kx_st 1 (pc' := 1) (L' := [some (.ref 65), none, none, none]) (st' := [.ref 65]) (h' := kv_wd g w) rfl ?_
          obtain ⟨g2, e2, r2⟩ := hv2 E d g w hs
          refine kx_call (z := 161) (as := [.ref 65]) (rest := []) (v := some (.int v)) (h1 := kv_wd g2 w) rfl e2 ?_
          refine kx_st 0 (pc' := 4) (L' := [some (.ref 65), none, none, none]) (st' := [.int v]) (h' := kv_wd g2 w) rfl ?_
          refine kx_st 1 (pc' := 5) (L' := [some (.ref 65), some (.int v), none, none]) (st' := []) (h' := kv_wd g2 w) rfl ?_
          exact hmm E d g2 w none none _ (kx_RS_of hs r2) (fun g' r => ⟨rfl, g', rfl, kx_RG_t r2 r⟩))
        exact ⟨g', kx_ev_le (by omega) he, hh⟩
set_option maxRecDepth 100000 in
theorem kx_tl_1 {tx : Nat → Int32} {n u op : Nat} (n50 : n ≤ 50) (u1 : u ≤ 1) (hn : ∀ a, a ≤ n → kx_PL tx n u 2 7 163 op a) : ∀ k a, n - a ≤ k → a ≤ n → ∃ (ok : Bool) (a1 : Nat) (tl : List Int32), ((a ≤ a1 ∧ a1 ≤ n) ∧ (ok = true → tl.length ≤ a1 - a ∧ 2 * kx_nv tl ≤ a1 - a)) ∧ (∀ (E : kv_V) (d : Nat) (g : kv_S) (w : kv_W) (ln : Nat) (x3 : Option Value) (P : Option Value → kv_H → Prop), E 1002 = some (1, 6, kv_NA) → kx_CS tx n u g a ln → ln + (n - a) ≤ 50 → (∀ g', kx_CR g g' a1 ok ln tl → P (some (.int (kx_ob ok))) (kv_wd g' w)) → kx_V E (d + (8 * (5 - op) + 7)) 47 24 [some (.ref 48), some (.int 1), some (.int (nI op)), x3] [] (kv_wd g w) P) ∧ (∀ A B C v : Int32, ∃ v' : Int32, (ok = true → ∀ st, kx_ex A B C tl (v :: st) = v' :: st) ∧ ∀ (E : kv_V) (d : Nat) (g : kv_S) (w : kv_W) (x2 : Option Value) (P : Option Value → kv_H → Prop), kx_RS tx n u g a op A B C → (∀ g', kx_RG g g' a1 op ok → P (some (.int v')) (kv_wd g' w)) → kx_V E (d + (6 * (5 - op) + 7)) 164 5 [some (.ref 65), some (.int v), x2] [] (kv_wd g w) P) := by
  intro k
  induction k with
  | zero =>
    intro a hk0 han
    have hk : ¬ (a < n ∧ kx_lv (tx a) = 1) := fun z => by omega
    refine ⟨true, a, [], ⟨⟨Nat.le_refl _, han⟩, fun _ => ⟨by simp, by show 2 * 0 ≤ _; omega⟩⟩, ?_, ?_⟩
    · intro E d g w ln x3 P hE hs hln hP
      refine kx_st 4 (pc' := 32) (L' := [some (.ref 48), some (.int 1), some (.int (nI op)), x3]) (st' := [.int (g 48 2), .int (g 48 3)]) (h' := kv_wd g w) rfl ?_
      refine kx_bi (t := 103) rfl rfl (fun (h32 : g 48 2 ≤ g 48 3) => ?_) (fun (h32 : ¬ (g 48 2 ≤ g 48 3)) => ?_)
      · refine kx_st 1 (pc' := 104) (L' := [some (.ref 48), some (.int 1), some (.int (nI op)), x3]) (st' := [.int 1]) (h' := kv_wd g w) rfl ?_
        refine kx_ret (v := some (.int 1)) rfl ?_
        exact hP g (kx_CR_0 hs true)
      · refine kx_st 0 (pc' := 35) (L' := [some (.ref 48), some (.int 1), some (.int (nI op)), x3]) (st' := []) (h' := kv_wd g w) rfl ?_
        refine kx_st 4 (pc' := 43) (L' := [some (.ref 48), some (.int 1), some (.int (nI op)), x3]) (st' := [.int (g 48 3), .ref 52]) (h' := kv_wd g w) rfl ?_
        refine kx_ia (k := a) rfl rfl (by decide) hs.2.1 (by have : a < n := (fun z => Classical.not_not.mp (fun y => z (by rw [hs.2.1, hs.1]; exact nI_le (by omega) (by omega)))) h32; omega) (by decide) ?_
        refine kx_call (z := 48) (as := [.int (g 52 a)]) (rest := []) (v := some (.int (kx_lv (g 52 a)))) (h1 := kv_wd g w) rfl (kx_ev_le (d := 0 + 1) (by omega) (ev_levelOf (d := 0) _)) ?_
        refine kx_st 0 (pc' := 47) (L' := [some (.ref 48), some (.int 1), some (.int (nI op)), x3]) (st' := [.int (kx_lv (g 52 a))]) (h' := kv_wd g w) rfl ?_
        refine kx_st 1 (pc' := 48) (L' := [some (.ref 48), some (.int 1), some (.int (nI op)), x3]) (st' := [.int 1, .int (kx_lv (g 52 a))]) (h' := kv_wd g w) rfl ?_
        refine kx_bi (t := 103) rfl rfl (fun (h48 : ¬ kx_lv (g 52 a) = 1) => ?_) (fun (h48 : ¬ (¬ kx_lv (g 52 a) = 1)) => ?_)
        · refine kx_st 1 (pc' := 104) (L' := [some (.ref 48), some (.int 1), some (.int (nI op)), x3]) (st' := [.int 1]) (h' := kv_wd g w) rfl ?_
          refine kx_ret (v := some (.int 1)) rfl ?_
          exact hP g (kx_CR_0 hs true)
        · exact absurd ⟨(fun z => Classical.not_not.mp (fun y => z (by rw [hs.2.1, hs.1]; exact nI_le (by omega) (by omega)))) h32, by rw [← hs.2.2.2.1 a ((fun z => Classical.not_not.mp (fun y => z (by rw [hs.2.1, hs.1]; exact nI_le (by omega) (by omega)))) h32)]; exact Classical.not_not.mp h48⟩ hk
    · intro A B C v
      refine ⟨v, fun _ st => rfl, ?_⟩
      intro E d g w x2 P hs hP
      refine kx_st 2 (pc' := 9) (L' := [some (.ref 65), some (.int v), x2]) (st' := [.int (g 65 14)]) (h' := kv_wd g w) rfl ?_
      refine kx_bc (t := 57) rfl rfl (fun (h9 : g 65 14 = 0) => ?_) (fun (h9 : ¬ (g 65 14 = 0)) => ?_)
      · exact absurd h9 (by rw [hs.2.2.1]; decide)
      · refine kx_st 0 (pc' := 12) (L' := [some (.ref 65), some (.int v), x2]) (st' := []) (h' := kv_wd g w) rfl ?_
        refine kx_st 3 (pc' := 17) (L' := [some (.ref 65), some (.int v), x2]) (st' := [.int (g 65 8), .ref 65]) (h' := kv_wd g w) rfl ?_
        refine kx_call (z := 155) (as := [.ref 65, .int (g 65 8)]) (rest := []) (v := some (.int (kx_bt tx n a))) (h1 := kv_wd g w) rfl (by rw [show g 65 8 = nI a from hs.1.2.1]; exact kx_ev_le (d := 0 + 1) (by omega) (ev_byteAt (d := 0) hs n50 u1 a (by omega))) ?_
        refine kx_st 0 (pc' := 20) (L' := [some (.ref 65), some (.int v), x2]) (st' := [.int (kx_bt tx n a)]) (h' := kv_wd g w) rfl ?_
        refine kx_st 1 (pc' := 22) (L' := [some (.ref 65), some (.int v), x2]) (st' := [.int 38, .int (kx_bt tx n a)]) (h' := kv_wd g w) rfl ?_
        refine kx_bi (t := 57) rfl rfl (fun (h22 : ¬ kx_bt tx n a = 38) => ?_) (fun (h22 : ¬ (¬ kx_bt tx n a = 38)) => ?_)
        · refine kx_st 1 (pc' := 58) (L' := [some (.ref 65), some (.int v), x2]) (st' := [.int v]) (h' := kv_wd g w) rfl ?_
          refine kx_ret (v := some (.int v)) rfl ?_
          exact hP g (kx_RG_0 hs)
        · exact absurd (Classical.not_not.mp h22) (kx_bn_38 hk)
  | succ k ih =>
    intro a hk0 han
    by_cases hk : a < n ∧ kx_lv (tx a) = 1
    · obtain ⟨hlt, hlv⟩ := hk
      obtain ⟨ok1, a2, cd1, hb1, hpx, hpm⟩ := hn (a + 1) (by omega)
      have hbb := hb1.1
      have hxx : ¬ -3 ≤ -(tx a) ∧ ¬ -(tx a) = -33 := by
        have h := kx_lv_1.mp hlv
        rw [h]; decide
      cases ok1 with
      | true =>
        obtain ⟨ok, a3, tl, hbt0, hxx2, hmm0⟩ := ih a2 (by omega) (by omega)
        have q1 := hb1.2 rfl
        refine ⟨ok, a3, cd1 ++ ([-(tx a)] ++ tl), ⟨⟨by omega, hbt0.1.2⟩, fun z => ?_⟩, ?_, ?_⟩
        · have q2 := hbt0.2 z
          have q3 := hbt0.1
          rw [List.length_append, List.length_append, kx_nv_app, kx_nv_app, kx_nv1 hxx.1, List.length_singleton]
          omega
        · intro E d g w ln x3 P hE hs hln hP
          refine kx_st 4 (pc' := 32) (L' := [some (.ref 48), some (.int 1), some (.int (nI op)), x3]) (st' := [.int (g 48 2), .int (g 48 3)]) (h' := kv_wd g w) rfl ?_
          refine kx_bi (t := 103) rfl rfl (fun (h32 : g 48 2 ≤ g 48 3) => ?_) (fun (h32 : ¬ (g 48 2 ≤ g 48 3)) => ?_)
          · exact absurd h32 (by rw [hs.2.1, hs.1]; exact nI_ge (a := a) (b := n) hlt (by omega))
          · refine kx_st 0 (pc' := 35) (L' := [some (.ref 48), some (.int 1), some (.int (nI op)), x3]) (st' := []) (h' := kv_wd g w) rfl ?_
            refine kx_st 4 (pc' := 43) (L' := [some (.ref 48), some (.int 1), some (.int (nI op)), x3]) (st' := [.int (g 48 3), .ref 52]) (h' := kv_wd g w) rfl ?_
            refine kx_ia (k := a) rfl rfl (by decide) hs.2.1 (by omega) (by decide) ?_
            refine kx_call (z := 48) (as := [.int (g 52 a)]) (rest := []) (v := some (.int (kx_lv (g 52 a)))) (h1 := kv_wd g w) rfl (kx_ev_le (d := 0 + 1) (by omega) (ev_levelOf (d := 0) _)) ?_
            refine kx_st 0 (pc' := 47) (L' := [some (.ref 48), some (.int 1), some (.int (nI op)), x3]) (st' := [.int (kx_lv (g 52 a))]) (h' := kv_wd g w) rfl ?_
            refine kx_st 1 (pc' := 48) (L' := [some (.ref 48), some (.int 1), some (.int (nI op)), x3]) (st' := [.int 1, .int (kx_lv (g 52 a))]) (h' := kv_wd g w) rfl ?_
            refine kx_bi (t := 103) rfl rfl (fun (h48 : ¬ kx_lv (g 52 a) = 1) => ?_) (fun (h48 : ¬ (¬ kx_lv (g 52 a) = 1)) => ?_)
            · exact absurd (by rw [hs.2.2.2.1 a hlt]; exact hlv) h48
            · refine kx_st 0 (pc' := 51) (L' := [some (.ref 48), some (.int 1), some (.int (nI op)), x3]) (st' := []) (h' := kv_wd g w) rfl ?_
              refine kx_st 4 (pc' := 59) (L' := [some (.ref 48), some (.int 1), some (.int (nI op)), x3]) (st' := [.int (g 48 3), .ref 52]) (h' := kv_wd g w) rfl ?_
              refine kx_ia (k := a) rfl rfl (by decide) hs.2.1 (by omega) (by decide) ?_
              refine kx_st 6 (pc' := 68) (L' := [some (.ref 48), some (.int 1), some (.int (nI op)), some (.int (g 52 a))]) (st' := [.int ((g 48 3) + 1), .ref 48]) (h' := kv_wd g w) rfl ?_
              refine kx_pf (i := 28) (k := 3) (x := ((g 48 3) + 1)) rfl rfl (by decide) rfl (Nat.le_of_ble_eq_true rfl) rfl rfl rfl ?_
              refine kx_st 5 (pc' := 76) (L' := [some (.ref 48), some (.int 1), some (.int (nI op)), some (.int (g 52 a))]) (st' := [.int (nI op), .int 2, .ref 48]) (h' := kv_wd (kv_up g 48 3 ((g 48 3) + 1)) w) rfl ?_
              have r1 := (kx_CR_up hs (g 48 3 + 1) (by rw [hs.2.1, nI_succ]))
              obtain ⟨g2, e2, r2⟩ := hpx E d _ w ln hE (kx_CS_u hs r1) (by omega)
              refine kx_call (z := 47) (as := [.ref 48, .int 2, .int (nI op)]) (rest := []) (v := some (.int 1)) (h1 := kv_wd g2 w) rfl e2 ?_
              refine kx_st 0 (pc' := 79) (L' := [some (.ref 48), some (.int 1), some (.int (nI op)), some (.int (g 52 a))]) (st' := [.int 1]) (h' := kv_wd g2 w) rfl ?_
              refine kx_st 1 (pc' := 84) (L' := [some (.ref 48), some (.int 1), some (.int (nI op)), some (.int (g 52 a))]) (st' := []) (h' := kv_wd g2 w) rfl ?_
              refine kx_st 4 (pc' := 90) (L' := [some (.ref 48), some (.int 1), some (.int (nI op)), some (.int (g 52 a))]) (st' := [.int (-(g 52 a)), .ref 49]) (h' := kv_wd g2 w) rfl ?_
              have hs2 := kx_CS_of (kx_CS_u hs r1) r2
              refine kx_call (z := 38) (as := [.ref 49, .int (-(g 52 a))]) (rest := []) (v := none) (h1 := kv_wd (kv_up (kv_up g2 50 (ln + cd1.length) (-(g 52 a))) 49 2 (nI (ln + cd1.length + 1))) w) rfl (kx_ev_le (d := 0 + 1) (by omega) (ev_add (d := 0) (ln + cd1.length) hs2.2.2.2.2 (by have := (hb1.2 rfl).2.1; omega) (-(g 52 a)))) ?_
              refine kx_st 0 (pc' := 93) (L' := [some (.ref 48), some (.int 1), some (.int (nI op)), some (.int (g 52 a))]) (st' := []) (h' := kv_wd (kv_up (kv_up g2 50 (ln + cd1.length) (-(g 52 a))) 49 2 (nI (ln + cd1.length + 1))) w) rfl ?_
              refine kx_st 2 (pc' := 95) (L' := [some (.ref 48), some (.int 1), some (.int (nI op)), some (.int (g 52 a))]) (st' := [.int 2, .int 1]) (h' := kv_wd (kv_up (kv_up g2 50 (ln + cd1.length) (-(g 52 a))) 49 2 (nI (ln + cd1.length + 1))) w) rfl ?_
              refine kx_st 1 (pc' := 100) (L' := [some (.ref 48), some (.int 1), some (.int (nI op)), some (.int (g 52 a))]) (st' := []) (h' := kv_wd (kv_up (kv_up g2 50 (ln + cd1.length) (-(g 52 a))) 49 2 (nI (ln + cd1.length + 1))) w) rfl ?_
              refine kx_st 1 (pc' := 24) (L' := [some (.ref 48), some (.int 1), some (.int (nI op)), some (.int (g 52 a))]) (st' := []) (h' := kv_wd (kv_up (kv_up g2 50 (ln + cd1.length) (-(g 52 a))) 49 2 (nI (ln + cd1.length + 1))) w) rfl ?_
              have z := hxx2 E d (kv_up (kv_up g2 50 (ln + cd1.length) (-(g 52 a))) 49 2 (nI (ln + cd1.length + 1))) w (ln + cd1.length + 1) (some (.int (g 52 a))) P hE (kx_CS_of hs2 (kx_CR_add hs2 _)) (by omega) (fun g' r => hP g' ?_)
              · exact z
              · rw [← hs.2.2.2.1 a hlt]
                exact kx_CR_u r1 (kx_CR_t r2 (kx_CR_t (kx_CR_add hs2 _) r))
        · intro A B C v
          obtain ⟨wv, hw1, hw2⟩ := hpm A B C
          have hkey := kx_lv_1.mp hlv
          have hbt : kx_bt tx n a = 38 := by rw [show kx_bt tx n a = tx a from if_pos hlt]; exact hkey
          obtain ⟨v', hv1, hmm⟩ := hmm0 A B C (kx_jn 38 v wv)
          refine ⟨v', fun z st => ?_, ?_⟩
          · rw [kx_ex_app, hw1 rfl (v :: st), kx_ex_app, kx_ex1 hxx.1 hxx.2, hkey]
            exact hv1 z st
          · intro E d g w x2 P hs hP
            refine kx_st 2 (pc' := 9) (L' := [some (.ref 65), some (.int v), x2]) (st' := [.int (g 65 14)]) (h' := kv_wd g w) rfl ?_
            refine kx_bc (t := 57) rfl rfl (fun (h9 : g 65 14 = 0) => ?_) (fun (h9 : ¬ (g 65 14 = 0)) => ?_)
            · exact absurd h9 (by rw [hs.2.2.1]; decide)
            · refine kx_st 0 (pc' := 12) (L' := [some (.ref 65), some (.int v), x2]) (st' := []) (h' := kv_wd g w) rfl ?_
              refine kx_st 3 (pc' := 17) (L' := [some (.ref 65), some (.int v), x2]) (st' := [.int (g 65 8), .ref 65]) (h' := kv_wd g w) rfl ?_
              refine kx_call (z := 155) (as := [.ref 65, .int (g 65 8)]) (rest := []) (v := some (.int 38)) (h1 := kv_wd g w) rfl (by rw [show g 65 8 = nI a from hs.1.2.1]; have z := ev_byteAt (E := E) (d := 0) (w := w) hs n50 u1 a (by omega); rw [hbt] at z; exact kx_ev_le (by omega) z) ?_
              refine kx_st 0 (pc' := 20) (L' := [some (.ref 65), some (.int v), x2]) (st' := [.int 38]) (h' := kv_wd g w) rfl ?_
              refine kx_st 1 (pc' := 22) (L' := [some (.ref 65), some (.int v), x2]) (st' := [.int 38, .int 38]) (h' := kv_wd g w) rfl ?_
              refine kx_st 1 (pc' := 25) (L' := [some (.ref 65), some (.int v), x2]) (st' := []) (h' := kv_wd g w) rfl ?_
              refine kx_st 5 (pc' := 32) (L' := [some (.ref 65), some (.int v), x2]) (st' := [.int ((g 65 8) + 1), .ref 65]) (h' := kv_wd g w) rfl ?_
              refine kx_pf (i := 113) (k := 8) (x := ((g 65 8) + 1)) rfl rfl (by decide) rfl (Nat.le_of_ble_eq_true rfl) rfl rfl rfl ?_
              refine kx_st 1 (pc' := 36) (L' := [some (.ref 65), some (.int v), x2]) (st' := [.ref 65]) (h' := kv_wd (kv_up g 65 8 ((g 65 8) + 1)) w) rfl ?_
              have r1 := kx_RG_up hs (g 65 8 + 1) (by rw [hs.1.2.1, nI_succ])
              obtain ⟨g2, e2, r2⟩ := hw2 E d _ w (kx_RS_of hs r1)
              refine kx_call (z := 163) (as := [.ref 65]) (rest := []) (v := some (.int wv)) (h1 := kv_wd g2 w) rfl e2 ?_
              refine kx_st 0 (pc' := 39) (L' := [some (.ref 65), some (.int v), x2]) (st' := [.int wv]) (h' := kv_wd g2 w) rfl ?_
              refine kx_st 2 (pc' := 41) (L' := [some (.ref 65), some (.int v), some (.int wv)]) (st' := [.int v]) (h' := kv_wd g2 w) rfl ?_
              refine kx_bc (t := 52) rfl rfl (fun (h41 : v = 0) => ?_) (fun (h41 : ¬ (v = 0)) => ?_)
              · refine kx_st 3 (pc' := 5) (L' := [some (.ref 65), some (.int 0), some (.int wv)]) (st' := []) (h' := kv_wd g2 w) rfl ?_
                rw [(show (0 : Int32) = kx_jn 38 v wv from (show (0 : Int32) = if v ≠ 0 ∧ wv ≠ 0 then (1 : Int32) else 0 from (if_neg (fun z => z.1 h41)).symm))]
                exact hmm E d g2 w _ P (kx_RS_of (kx_RS_of hs r1) r2) (fun g' r => hP g' (kx_RG_t r1 (kx_RG_t r2 r)))
              · refine kx_st 0 (pc' := 44) (L' := [some (.ref 65), some (.int v), some (.int wv)]) (st' := []) (h' := kv_wd g2 w) rfl ?_
                refine kx_st 1 (pc' := 45) (L' := [some (.ref 65), some (.int v), some (.int wv)]) (st' := [.int wv]) (h' := kv_wd g2 w) rfl ?_
                refine kx_bc (t := 52) rfl rfl (fun (h45 : wv = 0) => ?_) (fun (h45 : ¬ (wv = 0)) => ?_)
                · refine kx_st 3 (pc' := 5) (L' := [some (.ref 65), some (.int 0), some (.int wv)]) (st' := []) (h' := kv_wd g2 w) rfl ?_
                  rw [(show (0 : Int32) = kx_jn 38 v wv from (show (0 : Int32) = if v ≠ 0 ∧ wv ≠ 0 then (1 : Int32) else 0 from (if_neg (fun z => z.2 h45)).symm))]
                  exact hmm E d g2 w _ P (kx_RS_of (kx_RS_of hs r1) r2) (fun g' r => hP g' (kx_RG_t r1 (kx_RG_t r2 r)))
                · refine kx_st 0 (pc' := 48) (L' := [some (.ref 65), some (.int v), some (.int wv)]) (st' := []) (h' := kv_wd g2 w) rfl ?_
                  refine kx_st 4 (pc' := 5) (L' := [some (.ref 65), some (.int 1), some (.int wv)]) (st' := []) (h' := kv_wd g2 w) rfl ?_
                  rw [(show (1 : Int32) = kx_jn 38 v wv from (show (1 : Int32) = if v ≠ 0 ∧ wv ≠ 0 then (1 : Int32) else 0 from (if_pos ⟨h41, h45⟩).symm))]
                  exact hmm E d g2 w _ P (kx_RS_of (kx_RS_of hs r1) r2) (fun g' r => hP g' (kx_RG_t r1 (kx_RG_t r2 r)))
      | false =>
        refine ⟨false, a2, [], ⟨⟨by omega, hb1.1.2⟩, fun z => nomatch z⟩, ?_, ?_⟩
        · intro E d g w ln x3 P hE hs hln hP
          refine kx_st 4 (pc' := 32) (L' := [some (.ref 48), some (.int 1), some (.int (nI op)), x3]) (st' := [.int (g 48 2), .int (g 48 3)]) (h' := kv_wd g w) rfl ?_
          refine kx_bi (t := 103) rfl rfl (fun (h32 : g 48 2 ≤ g 48 3) => ?_) (fun (h32 : ¬ (g 48 2 ≤ g 48 3)) => ?_)
          · exact absurd h32 (by rw [hs.2.1, hs.1]; exact nI_ge (a := a) (b := n) hlt (by omega))
          · refine kx_st 0 (pc' := 35) (L' := [some (.ref 48), some (.int 1), some (.int (nI op)), x3]) (st' := []) (h' := kv_wd g w) rfl ?_
            refine kx_st 4 (pc' := 43) (L' := [some (.ref 48), some (.int 1), some (.int (nI op)), x3]) (st' := [.int (g 48 3), .ref 52]) (h' := kv_wd g w) rfl ?_
            refine kx_ia (k := a) rfl rfl (by decide) hs.2.1 (by omega) (by decide) ?_
            refine kx_call (z := 48) (as := [.int (g 52 a)]) (rest := []) (v := some (.int (kx_lv (g 52 a)))) (h1 := kv_wd g w) rfl (kx_ev_le (d := 0 + 1) (by omega) (ev_levelOf (d := 0) _)) ?_
            refine kx_st 0 (pc' := 47) (L' := [some (.ref 48), some (.int 1), some (.int (nI op)), x3]) (st' := [.int (kx_lv (g 52 a))]) (h' := kv_wd g w) rfl ?_
            refine kx_st 1 (pc' := 48) (L' := [some (.ref 48), some (.int 1), some (.int (nI op)), x3]) (st' := [.int 1, .int (kx_lv (g 52 a))]) (h' := kv_wd g w) rfl ?_
            refine kx_bi (t := 103) rfl rfl (fun (h48 : ¬ kx_lv (g 52 a) = 1) => ?_) (fun (h48 : ¬ (¬ kx_lv (g 52 a) = 1)) => ?_)
            · exact absurd (by rw [hs.2.2.2.1 a hlt]; exact hlv) h48
            · refine kx_st 0 (pc' := 51) (L' := [some (.ref 48), some (.int 1), some (.int (nI op)), x3]) (st' := []) (h' := kv_wd g w) rfl ?_
              refine kx_st 4 (pc' := 59) (L' := [some (.ref 48), some (.int 1), some (.int (nI op)), x3]) (st' := [.int (g 48 3), .ref 52]) (h' := kv_wd g w) rfl ?_
              refine kx_ia (k := a) rfl rfl (by decide) hs.2.1 (by omega) (by decide) ?_
              refine kx_st 6 (pc' := 68) (L' := [some (.ref 48), some (.int 1), some (.int (nI op)), some (.int (g 52 a))]) (st' := [.int ((g 48 3) + 1), .ref 48]) (h' := kv_wd g w) rfl ?_
              refine kx_pf (i := 28) (k := 3) (x := ((g 48 3) + 1)) rfl rfl (by decide) rfl (Nat.le_of_ble_eq_true rfl) rfl rfl rfl ?_
              refine kx_st 5 (pc' := 76) (L' := [some (.ref 48), some (.int 1), some (.int (nI op)), some (.int (g 52 a))]) (st' := [.int (nI op), .int 2, .ref 48]) (h' := kv_wd (kv_up g 48 3 ((g 48 3) + 1)) w) rfl ?_
              have r1 := (kx_CR_up hs (g 48 3 + 1) (by rw [hs.2.1, nI_succ]))
              obtain ⟨g2, e2, r2⟩ := hpx E d _ w ln hE (kx_CS_u hs r1) (by omega)
              refine kx_call (z := 47) (as := [.ref 48, .int 2, .int (nI op)]) (rest := []) (v := some (.int 0)) (h1 := kv_wd g2 w) rfl e2 ?_
              refine kx_st 0 (pc' := 79) (L' := [some (.ref 48), some (.int 1), some (.int (nI op)), some (.int (g 52 a))]) (st' := [.int 0]) (h' := kv_wd g2 w) rfl ?_
              refine kx_st 1 (pc' := 82) (L' := [some (.ref 48), some (.int 1), some (.int (nI op)), some (.int (g 52 a))]) (st' := []) (h' := kv_wd g2 w) rfl ?_
              refine kx_st 1 (pc' := 83) (L' := [some (.ref 48), some (.int 1), some (.int (nI op)), some (.int (g 52 a))]) (st' := [.int 0]) (h' := kv_wd g2 w) rfl ?_
              refine kx_ret (v := some (.int 0)) rfl ?_
              exact hP g2 (kx_CR_f r1 r2)
        · intro A B C v
          obtain ⟨wv, hw1, hw2⟩ := hpm A B C
          have hkey := kx_lv_1.mp hlv
          have hbt : kx_bt tx n a = 38 := by rw [show kx_bt tx n a = tx a from if_pos hlt]; exact hkey
          refine ⟨kx_jn 38 v wv, (fun z => nomatch z), ?_⟩
          intro E d g w x2 P hs hP
          refine kx_st 2 (pc' := 9) (L' := [some (.ref 65), some (.int v), x2]) (st' := [.int (g 65 14)]) (h' := kv_wd g w) rfl ?_
          refine kx_bc (t := 57) rfl rfl (fun (h9 : g 65 14 = 0) => ?_) (fun (h9 : ¬ (g 65 14 = 0)) => ?_)
          · exact absurd h9 (by rw [hs.2.2.1]; decide)
          · refine kx_st 0 (pc' := 12) (L' := [some (.ref 65), some (.int v), x2]) (st' := []) (h' := kv_wd g w) rfl ?_
            refine kx_st 3 (pc' := 17) (L' := [some (.ref 65), some (.int v), x2]) (st' := [.int (g 65 8), .ref 65]) (h' := kv_wd g w) rfl ?_
            refine kx_call (z := 155) (as := [.ref 65, .int (g 65 8)]) (rest := []) (v := some (.int 38)) (h1 := kv_wd g w) rfl (by rw [show g 65 8 = nI a from hs.1.2.1]; have z := ev_byteAt (E := E) (d := 0) (w := w) hs n50 u1 a (by omega); rw [hbt] at z; exact kx_ev_le (by omega) z) ?_
            refine kx_st 0 (pc' := 20) (L' := [some (.ref 65), some (.int v), x2]) (st' := [.int 38]) (h' := kv_wd g w) rfl ?_
            refine kx_st 1 (pc' := 22) (L' := [some (.ref 65), some (.int v), x2]) (st' := [.int 38, .int 38]) (h' := kv_wd g w) rfl ?_
            refine kx_st 1 (pc' := 25) (L' := [some (.ref 65), some (.int v), x2]) (st' := []) (h' := kv_wd g w) rfl ?_
            refine kx_st 5 (pc' := 32) (L' := [some (.ref 65), some (.int v), x2]) (st' := [.int ((g 65 8) + 1), .ref 65]) (h' := kv_wd g w) rfl ?_
            refine kx_pf (i := 113) (k := 8) (x := ((g 65 8) + 1)) rfl rfl (by decide) rfl (Nat.le_of_ble_eq_true rfl) rfl rfl rfl ?_
            refine kx_st 1 (pc' := 36) (L' := [some (.ref 65), some (.int v), x2]) (st' := [.ref 65]) (h' := kv_wd (kv_up g 65 8 ((g 65 8) + 1)) w) rfl ?_
            have r1 := kx_RG_up hs (g 65 8 + 1) (by rw [hs.1.2.1, nI_succ])
            obtain ⟨g2, e2, r2⟩ := hw2 E d _ w (kx_RS_of hs r1)
            refine kx_call (z := 163) (as := [.ref 65]) (rest := []) (v := some (.int wv)) (h1 := kv_wd g2 w) rfl e2 ?_
            refine kx_st 0 (pc' := 39) (L' := [some (.ref 65), some (.int v), x2]) (st' := [.int wv]) (h' := kv_wd g2 w) rfl ?_
            refine kx_st 2 (pc' := 41) (L' := [some (.ref 65), some (.int v), some (.int wv)]) (st' := [.int v]) (h' := kv_wd g2 w) rfl ?_
            refine kx_bc (t := 52) rfl rfl (fun (h41 : v = 0) => ?_) (fun (h41 : ¬ (v = 0)) => ?_)
            · refine kx_st 3 (pc' := 5) (L' := [some (.ref 65), some (.int 0), some (.int wv)]) (st' := []) (h' := kv_wd g2 w) rfl ?_
              rw [(show (0 : Int32) = kx_jn 38 v wv from (show (0 : Int32) = if v ≠ 0 ∧ wv ≠ 0 then (1 : Int32) else 0 from (if_neg (fun z => z.1 h41)).symm))]
              refine kx_st 2 (pc' := 9) (L' := [some (.ref 65), some (.int (kx_jn 38 v wv)), some (.int wv)]) (st' := [.int (g2 65 14)]) (h' := kv_wd g2 w) rfl ?_
              refine kx_bc (t := 57) rfl rfl (fun (y9 : g2 65 14 = 0) => ?_) (fun (y9 : ¬ (g2 65 14 = 0)) => ?_)
              · refine kx_st 1 (pc' := 58) (L' := [some (.ref 65), some (.int (kx_jn 38 v wv)), some (.int wv)]) (st' := [.int (kx_jn 38 v wv)]) (h' := kv_wd g2 w) rfl ?_
                refine kx_ret (v := some (.int (kx_jn 38 v wv))) rfl ?_
                exact hP g2 (kx_RG_t r1 r2)
              · exact absurd (show g2 65 14 = 0 by rw [r2.2.2.2.1]; rfl) y9
            · refine kx_st 0 (pc' := 44) (L' := [some (.ref 65), some (.int v), some (.int wv)]) (st' := []) (h' := kv_wd g2 w) rfl ?_
              refine kx_st 1 (pc' := 45) (L' := [some (.ref 65), some (.int v), some (.int wv)]) (st' := [.int wv]) (h' := kv_wd g2 w) rfl ?_
              refine kx_bc (t := 52) rfl rfl (fun (h45 : wv = 0) => ?_) (fun (h45 : ¬ (wv = 0)) => ?_)
              · refine kx_st 3 (pc' := 5) (L' := [some (.ref 65), some (.int 0), some (.int wv)]) (st' := []) (h' := kv_wd g2 w) rfl ?_
                rw [(show (0 : Int32) = kx_jn 38 v wv from (show (0 : Int32) = if v ≠ 0 ∧ wv ≠ 0 then (1 : Int32) else 0 from (if_neg (fun z => z.2 h45)).symm))]
                refine kx_st 2 (pc' := 9) (L' := [some (.ref 65), some (.int (kx_jn 38 v wv)), some (.int wv)]) (st' := [.int (g2 65 14)]) (h' := kv_wd g2 w) rfl ?_
                refine kx_bc (t := 57) rfl rfl (fun (y9 : g2 65 14 = 0) => ?_) (fun (y9 : ¬ (g2 65 14 = 0)) => ?_)
                · refine kx_st 1 (pc' := 58) (L' := [some (.ref 65), some (.int (kx_jn 38 v wv)), some (.int wv)]) (st' := [.int (kx_jn 38 v wv)]) (h' := kv_wd g2 w) rfl ?_
                  refine kx_ret (v := some (.int (kx_jn 38 v wv))) rfl ?_
                  exact hP g2 (kx_RG_t r1 r2)
                · exact absurd (show g2 65 14 = 0 by rw [r2.2.2.2.1]; rfl) y9
              · refine kx_st 0 (pc' := 48) (L' := [some (.ref 65), some (.int v), some (.int wv)]) (st' := []) (h' := kv_wd g2 w) rfl ?_
                refine kx_st 4 (pc' := 5) (L' := [some (.ref 65), some (.int 1), some (.int wv)]) (st' := []) (h' := kv_wd g2 w) rfl ?_
                rw [(show (1 : Int32) = kx_jn 38 v wv from (show (1 : Int32) = if v ≠ 0 ∧ wv ≠ 0 then (1 : Int32) else 0 from (if_pos ⟨h41, h45⟩).symm))]
                refine kx_st 2 (pc' := 9) (L' := [some (.ref 65), some (.int (kx_jn 38 v wv)), some (.int wv)]) (st' := [.int (g2 65 14)]) (h' := kv_wd g2 w) rfl ?_
                refine kx_bc (t := 57) rfl rfl (fun (y9 : g2 65 14 = 0) => ?_) (fun (y9 : ¬ (g2 65 14 = 0)) => ?_)
                · refine kx_st 1 (pc' := 58) (L' := [some (.ref 65), some (.int (kx_jn 38 v wv)), some (.int wv)]) (st' := [.int (kx_jn 38 v wv)]) (h' := kv_wd g2 w) rfl ?_
                  refine kx_ret (v := some (.int (kx_jn 38 v wv))) rfl ?_
                  exact hP g2 (kx_RG_t r1 r2)
                · exact absurd (show g2 65 14 = 0 by rw [r2.2.2.2.1]; rfl) y9
    · refine ⟨true, a, [], ⟨⟨Nat.le_refl _, han⟩, fun _ => ⟨by simp, by show 2 * 0 ≤ _; omega⟩⟩, ?_, ?_⟩
      · intro E d g w ln x3 P hE hs hln hP
        refine kx_st 4 (pc' := 32) (L' := [some (.ref 48), some (.int 1), some (.int (nI op)), x3]) (st' := [.int (g 48 2), .int (g 48 3)]) (h' := kv_wd g w) rfl ?_
        refine kx_bi (t := 103) rfl rfl (fun (h32 : g 48 2 ≤ g 48 3) => ?_) (fun (h32 : ¬ (g 48 2 ≤ g 48 3)) => ?_)
        · refine kx_st 1 (pc' := 104) (L' := [some (.ref 48), some (.int 1), some (.int (nI op)), x3]) (st' := [.int 1]) (h' := kv_wd g w) rfl ?_
          refine kx_ret (v := some (.int 1)) rfl ?_
          exact hP g (kx_CR_0 hs true)
        · refine kx_st 0 (pc' := 35) (L' := [some (.ref 48), some (.int 1), some (.int (nI op)), x3]) (st' := []) (h' := kv_wd g w) rfl ?_
          refine kx_st 4 (pc' := 43) (L' := [some (.ref 48), some (.int 1), some (.int (nI op)), x3]) (st' := [.int (g 48 3), .ref 52]) (h' := kv_wd g w) rfl ?_
          refine kx_ia (k := a) rfl rfl (by decide) hs.2.1 (by have : a < n := (fun z => Classical.not_not.mp (fun y => z (by rw [hs.2.1, hs.1]; exact nI_le (by omega) (by omega)))) h32; omega) (by decide) ?_
          refine kx_call (z := 48) (as := [.int (g 52 a)]) (rest := []) (v := some (.int (kx_lv (g 52 a)))) (h1 := kv_wd g w) rfl (kx_ev_le (d := 0 + 1) (by omega) (ev_levelOf (d := 0) _)) ?_
          refine kx_st 0 (pc' := 47) (L' := [some (.ref 48), some (.int 1), some (.int (nI op)), x3]) (st' := [.int (kx_lv (g 52 a))]) (h' := kv_wd g w) rfl ?_
          refine kx_st 1 (pc' := 48) (L' := [some (.ref 48), some (.int 1), some (.int (nI op)), x3]) (st' := [.int 1, .int (kx_lv (g 52 a))]) (h' := kv_wd g w) rfl ?_
          refine kx_bi (t := 103) rfl rfl (fun (h48 : ¬ kx_lv (g 52 a) = 1) => ?_) (fun (h48 : ¬ (¬ kx_lv (g 52 a) = 1)) => ?_)
          · refine kx_st 1 (pc' := 104) (L' := [some (.ref 48), some (.int 1), some (.int (nI op)), x3]) (st' := [.int 1]) (h' := kv_wd g w) rfl ?_
            refine kx_ret (v := some (.int 1)) rfl ?_
            exact hP g (kx_CR_0 hs true)
          · exact absurd ⟨(fun z => Classical.not_not.mp (fun y => z (by rw [hs.2.1, hs.1]; exact nI_le (by omega) (by omega)))) h32, by rw [← hs.2.2.2.1 a ((fun z => Classical.not_not.mp (fun y => z (by rw [hs.2.1, hs.1]; exact nI_le (by omega) (by omega)))) h32)]; exact Classical.not_not.mp h48⟩ hk
      · intro A B C v
        refine ⟨v, fun _ st => rfl, ?_⟩
        intro E d g w x2 P hs hP
        refine kx_st 2 (pc' := 9) (L' := [some (.ref 65), some (.int v), x2]) (st' := [.int (g 65 14)]) (h' := kv_wd g w) rfl ?_
        refine kx_bc (t := 57) rfl rfl (fun (h9 : g 65 14 = 0) => ?_) (fun (h9 : ¬ (g 65 14 = 0)) => ?_)
        · exact absurd h9 (by rw [hs.2.2.1]; decide)
        · refine kx_st 0 (pc' := 12) (L' := [some (.ref 65), some (.int v), x2]) (st' := []) (h' := kv_wd g w) rfl ?_
          refine kx_st 3 (pc' := 17) (L' := [some (.ref 65), some (.int v), x2]) (st' := [.int (g 65 8), .ref 65]) (h' := kv_wd g w) rfl ?_
          refine kx_call (z := 155) (as := [.ref 65, .int (g 65 8)]) (rest := []) (v := some (.int (kx_bt tx n a))) (h1 := kv_wd g w) rfl (by rw [show g 65 8 = nI a from hs.1.2.1]; exact kx_ev_le (d := 0 + 1) (by omega) (ev_byteAt (d := 0) hs n50 u1 a (by omega))) ?_
          refine kx_st 0 (pc' := 20) (L' := [some (.ref 65), some (.int v), x2]) (st' := [.int (kx_bt tx n a)]) (h' := kv_wd g w) rfl ?_
          refine kx_st 1 (pc' := 22) (L' := [some (.ref 65), some (.int v), x2]) (st' := [.int 38, .int (kx_bt tx n a)]) (h' := kv_wd g w) rfl ?_
          refine kx_bi (t := 57) rfl rfl (fun (h22 : ¬ kx_bt tx n a = 38) => ?_) (fun (h22 : ¬ (¬ kx_bt tx n a = 38)) => ?_)
          · refine kx_st 1 (pc' := 58) (L' := [some (.ref 65), some (.int v), x2]) (st' := [.int v]) (h' := kv_wd g w) rfl ?_
            refine kx_ret (v := some (.int v)) rfl ?_
            exact hP g (kx_RG_0 hs)
          · exact absurd (Classical.not_not.mp h22) (kx_bn_38 hk)
set_option maxRecDepth 100000 in
theorem kx_pl_1 {tx : Nat → Int32} {n u op : Nat} (n50 : n ≤ 50) (u1 : u ≤ 1) (hn : ∀ a, a ≤ n → kx_PL tx n u 2 7 163 op a) : ∀ a, a ≤ n → kx_PL tx n u 1 8 164 op a := by
  intro a han
  obtain ⟨ok1, a2, cd1, hb1, hpx, hpm⟩ := hn a han
  have hbb := hb1.1
  cases ok1 with
  | false =>
    refine ⟨false, a2, [], ⟨hbb, fun z => nomatch z⟩, ?_, ?_⟩
    · intro E d g w ln hE hs hln
      obtain ⟨v0, hf, he, rfl, g', rfl, hh⟩ := kx_evP (E := E) (d := d + (8 * (5 - op) + 7)) (y := 47) (h := kv_wd g w) (as := [.ref 48, .int 1, .int (nI op)]) (P := fun v0 h => v0 = (some (.int 0) : Option Value) ∧ ∃ g' : kv_S, h = kv_wd g' w ∧ kx_CR g g' a2 false ln []) (by decide) (Nat.le_of_ble_eq_true rfl) (by
        refine kx_st 0 (pc' := 0) (L' := [some (.ref 48), some (.int 1), some (.int (nI op)), none]) (st' := []) (h' := kv_wd g w) rfl ?_
        refine kx_st 2 (pc' := 2) (L' := [some (.ref 48), some (.int 1), some (.int (nI op)), none]) (st' := [.int 5, .int 1]) (h' := kv_wd g w) rfl ?_
        refine kx_st 1 (pc' := 11) (L' := [some (.ref 48), some (.int 1), some (.int (nI op)), none]) (st' := []) (h' := kv_wd g w) rfl ?_
        refine kx_st 5 (pc' := 16) (L' := [some (.ref 48), some (.int 1), some (.int (nI op)), none]) (st' := [.int (nI op), .int 2, .ref 48]) (h' := kv_wd g w) rfl ?_
        obtain ⟨g2, e2, r2⟩ := hpx E d g w ln hE hs hln
        refine kx_call (z := 47) (as := [.ref 48, .int 2, .int (nI op)]) (rest := []) (v := some (.int 0)) (h1 := kv_wd g2 w) rfl e2 ?_
        refine kx_st 0 (pc' := 19) (L' := [some (.ref 48), some (.int 1), some (.int (nI op)), none]) (st' := [.int 0]) (h' := kv_wd g2 w) rfl ?_
        refine kx_st 1 (pc' := 22) (L' := [some (.ref 48), some (.int 1), some (.int (nI op)), none]) (st' := []) (h' := kv_wd g2 w) rfl ?_
        refine kx_st 1 (pc' := 23) (L' := [some (.ref 48), some (.int 1), some (.int (nI op)), none]) (st' := [.int 0]) (h' := kv_wd g2 w) rfl ?_
        refine kx_ret (v := some (.int 0)) rfl ?_
        exact ⟨rfl, _, rfl, r2.1, r2.2.1, r2.2.2.1, fun z => nomatch z⟩)
      exact ⟨g', kx_ev_le (by omega) he, hh⟩
    · intro A B C
      obtain ⟨v, hv1, hv2⟩ := hpm A B C
      refine ⟨v, (fun z => nomatch z), ?_⟩
      intro E d g w hs
      obtain ⟨v0, hf, he, rfl, g', rfl, hh⟩ := kx_evP (E := E) (d := d + (6 * (5 - op) + 7)) (y := 164) (h := kv_wd g w) (as := [.ref 65]) (P := fun v0 h => v0 = (some (.int v) : Option Value) ∧ ∃ g' : kv_S, h = kv_wd g' w ∧ kx_RG g g' a2 op false) (by decide) (Nat.le_of_ble_eq_true rfl) (by
        refine kx_st 0 (pc' := 0) (L' := [some (.ref 65), none, none]) (st' := []) (h' := kv_wd g w) rfl ?_
        refine kx_st 1 (pc' := 1) (L' := [some (.ref 65), none, none]) (st' := [.ref 65]) (h' := kv_wd g w) rfl ?_
        obtain ⟨g2, e2, r2⟩ := hv2 E d g w hs
        refine kx_call (z := 163) (as := [.ref 65]) (rest := []) (v := some (.int v)) (h1 := kv_wd g2 w) rfl e2 ?_
        refine kx_st 0 (pc' := 4) (L' := [some (.ref 65), none, none]) (st' := [.int v]) (h' := kv_wd g2 w) rfl ?_
        refine kx_st 3 (pc' := 9) (L' := [some (.ref 65), some (.int v), none]) (st' := [.int (g2 65 14)]) (h' := kv_wd g2 w) rfl ?_
        refine kx_bc (t := 57) rfl rfl (fun (h9 : g2 65 14 = 0) => ?_) (fun (h9 : ¬ (g2 65 14 = 0)) => ?_)
        · refine kx_st 1 (pc' := 58) (L' := [some (.ref 65), some (.int v), none]) (st' := [.int v]) (h' := kv_wd g2 w) rfl ?_
          refine kx_ret (v := some (.int v)) rfl ?_
          exact ⟨rfl, _, rfl, r2⟩
        · exact absurd (show g2 65 14 = 0 by rw [r2.2.2.2.1]; rfl) h9)
      exact ⟨g', kx_ev_le (by omega) he, hh⟩
  | true =>
    obtain ⟨ok, a3, tl, hbt0, hxx2, hmm0⟩ := kx_tl_1 n50 u1 hn (n - a2) a2 (Nat.le_refl _) (by omega)
    have q1 := hb1.2 rfl
    refine ⟨ok, a3, cd1 ++ tl, ⟨⟨by have := hbt0.1; omega, hbt0.1.2⟩, fun z => ?_⟩, ?_, ?_⟩
    · have q2 := hbt0.2 z
      have q3 := hbt0.1
      rw [List.length_append, kx_nv_app]
      omega
    · intro E d g w ln hE hs hln
      obtain ⟨v0, hf, he, rfl, g', rfl, hh⟩ := kx_evP (E := E) (d := d + (8 * (5 - op) + 7)) (y := 47) (h := kv_wd g w) (as := [.ref 48, .int 1, .int (nI op)]) (P := fun v0 h => v0 = (some (.int (kx_ob ok)) : Option Value) ∧ ∃ g' : kv_S, h = kv_wd g' w ∧ kx_CR g g' a3 ok ln (cd1 ++ tl)) (by decide) (Nat.le_of_ble_eq_true rfl) (by
        refine kx_st 0 (pc' := 0) (L' := [some (.ref 48), some (.int 1), some (.int (nI op)), none]) (st' := []) (h' := kv_wd g w) rfl ?_
        refine kx_st 2 (pc' := 2) (L' := [some (.ref 48), some (.int 1), some (.int (nI op)), none]) (st' := [.int 5, .int 1]) (h' := kv_wd g w) rfl ?_
        refine kx_st 1 (pc' := 11) (L' := [some (.ref 48), some (.int 1), some (.int (nI op)), none]) (st' := []) (h' := kv_wd g w) rfl ?_
        refine kx_st 5 (pc' := 16) (L' := [some (.ref 48), some (.int 1), some (.int (nI op)), none]) (st' := [.int (nI op), .int 2, .ref 48]) (h' := kv_wd g w) rfl ?_
        obtain ⟨g2, e2, r2⟩ := hpx E d g w ln hE hs hln
        refine kx_call (z := 47) (as := [.ref 48, .int 2, .int (nI op)]) (rest := []) (v := some (.int 1)) (h1 := kv_wd g2 w) rfl e2 ?_
        refine kx_st 0 (pc' := 19) (L' := [some (.ref 48), some (.int 1), some (.int (nI op)), none]) (st' := [.int 1]) (h' := kv_wd g2 w) rfl ?_
        refine kx_st 1 (pc' := 24) (L' := [some (.ref 48), some (.int 1), some (.int (nI op)), none]) (st' := []) (h' := kv_wd g2 w) rfl ?_
        exact hxx2 E d g2 w (ln + cd1.length) none _ hE (kx_CS_of hs r2) (by omega) (fun g' r => ⟨rfl, g', rfl, kx_CR_t r2 r⟩))
      exact ⟨g', kx_ev_le (by omega) he, hh⟩
    · intro A B C
      obtain ⟨v, hv1, hv2⟩ := hpm A B C
      obtain ⟨v', hv3, hmm⟩ := hmm0 A B C v
      refine ⟨v', fun z st => ?_, ?_⟩
      · rw [kx_ex_app, hv1 rfl st]; exact hv3 z st
      · intro E d g w hs
        obtain ⟨v0, hf, he, rfl, g', rfl, hh⟩ := kx_evP (E := E) (d := d + (6 * (5 - op) + 7)) (y := 164) (h := kv_wd g w) (as := [.ref 65]) (P := fun v0 h => v0 = (some (.int v') : Option Value) ∧ ∃ g' : kv_S, h = kv_wd g' w ∧ kx_RG g g' a3 op ok) (by decide) (Nat.le_of_ble_eq_true rfl) (by
          refine kx_st 0 (pc' := 0) (L' := [some (.ref 65), none, none]) (st' := []) (h' := kv_wd g w) rfl ?_
          refine kx_st 1 (pc' := 1) (L' := [some (.ref 65), none, none]) (st' := [.ref 65]) (h' := kv_wd g w) rfl ?_
          obtain ⟨g2, e2, r2⟩ := hv2 E d g w hs
          refine kx_call (z := 163) (as := [.ref 65]) (rest := []) (v := some (.int v)) (h1 := kv_wd g2 w) rfl e2 ?_
          refine kx_st 0 (pc' := 4) (L' := [some (.ref 65), none, none]) (st' := [.int v]) (h' := kv_wd g2 w) rfl ?_
          refine kx_st 1 (pc' := 5) (L' := [some (.ref 65), some (.int v), none]) (st' := []) (h' := kv_wd g2 w) rfl ?_
          exact hmm E d g2 w none _ (kx_RS_of hs r2) (fun g' r => ⟨rfl, g', rfl, kx_RG_t r2 r⟩))
        exact ⟨g', kx_ev_le (by omega) he, hh⟩
set_option maxRecDepth 100000 in
theorem kx_tl_0 {tx : Nat → Int32} {n u op : Nat} (n50 : n ≤ 50) (u1 : u ≤ 1) (hn : ∀ a, a ≤ n → kx_PL tx n u 1 8 164 op a) : ∀ k a, n - a ≤ k → a ≤ n → ∃ (ok : Bool) (a1 : Nat) (tl : List Int32), ((a ≤ a1 ∧ a1 ≤ n) ∧ (ok = true → tl.length ≤ a1 - a ∧ 2 * kx_nv tl ≤ a1 - a)) ∧ (∀ (E : kv_V) (d : Nat) (g : kv_S) (w : kv_W) (ln : Nat) (x3 : Option Value) (P : Option Value → kv_H → Prop), E 1002 = some (1, 6, kv_NA) → kx_CS tx n u g a ln → ln + (n - a) ≤ 50 → (∀ g', kx_CR g g' a1 ok ln tl → P (some (.int (kx_ob ok))) (kv_wd g' w)) → kx_V E (d + (8 * (5 - op) + 8)) 47 24 [some (.ref 48), some (.int 0), some (.int (nI op)), x3] [] (kv_wd g w) P) ∧ (∀ A B C v : Int32, ∃ v' : Int32, (ok = true → ∀ st, kx_ex A B C tl (v :: st) = v' :: st) ∧ ∀ (E : kv_V) (d : Nat) (g : kv_S) (w : kv_W) (x2 : Option Value) (P : Option Value → kv_H → Prop), kx_RS tx n u g a op A B C → (∀ g', kx_RG g g' a1 op ok → P (some (.int v')) (kv_wd g' w)) → kx_V E (d + (6 * (5 - op) + 8)) 165 5 [some (.ref 65), some (.int v), x2] [] (kv_wd g w) P) := by
  intro k
  induction k with
  | zero =>
    intro a hk0 han
    have hk : ¬ (a < n ∧ kx_lv (tx a) = 0) := fun z => by omega
    refine ⟨true, a, [], ⟨⟨Nat.le_refl _, han⟩, fun _ => ⟨by simp, by show 2 * 0 ≤ _; omega⟩⟩, ?_, ?_⟩
    · intro E d g w ln x3 P hE hs hln hP
      refine kx_st 4 (pc' := 32) (L' := [some (.ref 48), some (.int 0), some (.int (nI op)), x3]) (st' := [.int (g 48 2), .int (g 48 3)]) (h' := kv_wd g w) rfl ?_
      refine kx_bi (t := 103) rfl rfl (fun (h32 : g 48 2 ≤ g 48 3) => ?_) (fun (h32 : ¬ (g 48 2 ≤ g 48 3)) => ?_)
      · refine kx_st 1 (pc' := 104) (L' := [some (.ref 48), some (.int 0), some (.int (nI op)), x3]) (st' := [.int 1]) (h' := kv_wd g w) rfl ?_
        refine kx_ret (v := some (.int 1)) rfl ?_
        exact hP g (kx_CR_0 hs true)
      · refine kx_st 0 (pc' := 35) (L' := [some (.ref 48), some (.int 0), some (.int (nI op)), x3]) (st' := []) (h' := kv_wd g w) rfl ?_
        refine kx_st 4 (pc' := 43) (L' := [some (.ref 48), some (.int 0), some (.int (nI op)), x3]) (st' := [.int (g 48 3), .ref 52]) (h' := kv_wd g w) rfl ?_
        refine kx_ia (k := a) rfl rfl (by decide) hs.2.1 (by have : a < n := (fun z => Classical.not_not.mp (fun y => z (by rw [hs.2.1, hs.1]; exact nI_le (by omega) (by omega)))) h32; omega) (by decide) ?_
        refine kx_call (z := 48) (as := [.int (g 52 a)]) (rest := []) (v := some (.int (kx_lv (g 52 a)))) (h1 := kv_wd g w) rfl (kx_ev_le (d := 0 + 1) (by omega) (ev_levelOf (d := 0) _)) ?_
        refine kx_st 0 (pc' := 47) (L' := [some (.ref 48), some (.int 0), some (.int (nI op)), x3]) (st' := [.int (kx_lv (g 52 a))]) (h' := kv_wd g w) rfl ?_
        refine kx_st 1 (pc' := 48) (L' := [some (.ref 48), some (.int 0), some (.int (nI op)), x3]) (st' := [.int 0, .int (kx_lv (g 52 a))]) (h' := kv_wd g w) rfl ?_
        refine kx_bi (t := 103) rfl rfl (fun (h48 : ¬ kx_lv (g 52 a) = 0) => ?_) (fun (h48 : ¬ (¬ kx_lv (g 52 a) = 0)) => ?_)
        · refine kx_st 1 (pc' := 104) (L' := [some (.ref 48), some (.int 0), some (.int (nI op)), x3]) (st' := [.int 1]) (h' := kv_wd g w) rfl ?_
          refine kx_ret (v := some (.int 1)) rfl ?_
          exact hP g (kx_CR_0 hs true)
        · exact absurd ⟨(fun z => Classical.not_not.mp (fun y => z (by rw [hs.2.1, hs.1]; exact nI_le (by omega) (by omega)))) h32, by rw [← hs.2.2.2.1 a ((fun z => Classical.not_not.mp (fun y => z (by rw [hs.2.1, hs.1]; exact nI_le (by omega) (by omega)))) h32)]; exact Classical.not_not.mp h48⟩ hk
    · intro A B C v
      refine ⟨v, fun _ st => rfl, ?_⟩
      intro E d g w x2 P hs hP
      refine kx_st 2 (pc' := 9) (L' := [some (.ref 65), some (.int v), x2]) (st' := [.int (g 65 14)]) (h' := kv_wd g w) rfl ?_
      refine kx_bc (t := 57) rfl rfl (fun (h9 : g 65 14 = 0) => ?_) (fun (h9 : ¬ (g 65 14 = 0)) => ?_)
      · exact absurd h9 (by rw [hs.2.2.1]; decide)
      · refine kx_st 0 (pc' := 12) (L' := [some (.ref 65), some (.int v), x2]) (st' := []) (h' := kv_wd g w) rfl ?_
        refine kx_st 3 (pc' := 17) (L' := [some (.ref 65), some (.int v), x2]) (st' := [.int (g 65 8), .ref 65]) (h' := kv_wd g w) rfl ?_
        refine kx_call (z := 155) (as := [.ref 65, .int (g 65 8)]) (rest := []) (v := some (.int (kx_bt tx n a))) (h1 := kv_wd g w) rfl (by rw [show g 65 8 = nI a from hs.1.2.1]; exact kx_ev_le (d := 0 + 1) (by omega) (ev_byteAt (d := 0) hs n50 u1 a (by omega))) ?_
        refine kx_st 0 (pc' := 20) (L' := [some (.ref 65), some (.int v), x2]) (st' := [.int (kx_bt tx n a)]) (h' := kv_wd g w) rfl ?_
        refine kx_st 1 (pc' := 22) (L' := [some (.ref 65), some (.int v), x2]) (st' := [.int 124, .int (kx_bt tx n a)]) (h' := kv_wd g w) rfl ?_
        refine kx_bi (t := 57) rfl rfl (fun (h22 : ¬ kx_bt tx n a = 124) => ?_) (fun (h22 : ¬ (¬ kx_bt tx n a = 124)) => ?_)
        · refine kx_st 1 (pc' := 58) (L' := [some (.ref 65), some (.int v), x2]) (st' := [.int v]) (h' := kv_wd g w) rfl ?_
          refine kx_ret (v := some (.int v)) rfl ?_
          exact hP g (kx_RG_0 hs)
        · exact absurd (Classical.not_not.mp h22) (kx_bn_124 hk)
  | succ k ih =>
    intro a hk0 han
    by_cases hk : a < n ∧ kx_lv (tx a) = 0
    · obtain ⟨hlt, hlv⟩ := hk
      obtain ⟨ok1, a2, cd1, hb1, hpx, hpm⟩ := hn (a + 1) (by omega)
      have hbb := hb1.1
      have hxx : ¬ -3 ≤ -(tx a) ∧ ¬ -(tx a) = -33 := by
        have h := kx_lv_0.mp hlv
        rw [h]; decide
      cases ok1 with
      | true =>
        obtain ⟨ok, a3, tl, hbt0, hxx2, hmm0⟩ := ih a2 (by omega) (by omega)
        have q1 := hb1.2 rfl
        refine ⟨ok, a3, cd1 ++ ([-(tx a)] ++ tl), ⟨⟨by omega, hbt0.1.2⟩, fun z => ?_⟩, ?_, ?_⟩
        · have q2 := hbt0.2 z
          have q3 := hbt0.1
          rw [List.length_append, List.length_append, kx_nv_app, kx_nv_app, kx_nv1 hxx.1, List.length_singleton]
          omega
        · intro E d g w ln x3 P hE hs hln hP
          refine kx_st 4 (pc' := 32) (L' := [some (.ref 48), some (.int 0), some (.int (nI op)), x3]) (st' := [.int (g 48 2), .int (g 48 3)]) (h' := kv_wd g w) rfl ?_
          refine kx_bi (t := 103) rfl rfl (fun (h32 : g 48 2 ≤ g 48 3) => ?_) (fun (h32 : ¬ (g 48 2 ≤ g 48 3)) => ?_)
          · exact absurd h32 (by rw [hs.2.1, hs.1]; exact nI_ge (a := a) (b := n) hlt (by omega))
          · refine kx_st 0 (pc' := 35) (L' := [some (.ref 48), some (.int 0), some (.int (nI op)), x3]) (st' := []) (h' := kv_wd g w) rfl ?_
            refine kx_st 4 (pc' := 43) (L' := [some (.ref 48), some (.int 0), some (.int (nI op)), x3]) (st' := [.int (g 48 3), .ref 52]) (h' := kv_wd g w) rfl ?_
            refine kx_ia (k := a) rfl rfl (by decide) hs.2.1 (by omega) (by decide) ?_
            refine kx_call (z := 48) (as := [.int (g 52 a)]) (rest := []) (v := some (.int (kx_lv (g 52 a)))) (h1 := kv_wd g w) rfl (kx_ev_le (d := 0 + 1) (by omega) (ev_levelOf (d := 0) _)) ?_
            refine kx_st 0 (pc' := 47) (L' := [some (.ref 48), some (.int 0), some (.int (nI op)), x3]) (st' := [.int (kx_lv (g 52 a))]) (h' := kv_wd g w) rfl ?_
            refine kx_st 1 (pc' := 48) (L' := [some (.ref 48), some (.int 0), some (.int (nI op)), x3]) (st' := [.int 0, .int (kx_lv (g 52 a))]) (h' := kv_wd g w) rfl ?_
            refine kx_bi (t := 103) rfl rfl (fun (h48 : ¬ kx_lv (g 52 a) = 0) => ?_) (fun (h48 : ¬ (¬ kx_lv (g 52 a) = 0)) => ?_)
            · exact absurd (by rw [hs.2.2.2.1 a hlt]; exact hlv) h48
            · refine kx_st 0 (pc' := 51) (L' := [some (.ref 48), some (.int 0), some (.int (nI op)), x3]) (st' := []) (h' := kv_wd g w) rfl ?_
              refine kx_st 4 (pc' := 59) (L' := [some (.ref 48), some (.int 0), some (.int (nI op)), x3]) (st' := [.int (g 48 3), .ref 52]) (h' := kv_wd g w) rfl ?_
              refine kx_ia (k := a) rfl rfl (by decide) hs.2.1 (by omega) (by decide) ?_
              refine kx_st 6 (pc' := 68) (L' := [some (.ref 48), some (.int 0), some (.int (nI op)), some (.int (g 52 a))]) (st' := [.int ((g 48 3) + 1), .ref 48]) (h' := kv_wd g w) rfl ?_
              refine kx_pf (i := 28) (k := 3) (x := ((g 48 3) + 1)) rfl rfl (by decide) rfl (Nat.le_of_ble_eq_true rfl) rfl rfl rfl ?_
              refine kx_st 5 (pc' := 76) (L' := [some (.ref 48), some (.int 0), some (.int (nI op)), some (.int (g 52 a))]) (st' := [.int (nI op), .int 1, .ref 48]) (h' := kv_wd (kv_up g 48 3 ((g 48 3) + 1)) w) rfl ?_
              have r1 := (kx_CR_up hs (g 48 3 + 1) (by rw [hs.2.1, nI_succ]))
              obtain ⟨g2, e2, r2⟩ := hpx E d _ w ln hE (kx_CS_u hs r1) (by omega)
              refine kx_call (z := 47) (as := [.ref 48, .int 1, .int (nI op)]) (rest := []) (v := some (.int 1)) (h1 := kv_wd g2 w) rfl e2 ?_
              refine kx_st 0 (pc' := 79) (L' := [some (.ref 48), some (.int 0), some (.int (nI op)), some (.int (g 52 a))]) (st' := [.int 1]) (h' := kv_wd g2 w) rfl ?_
              refine kx_st 1 (pc' := 84) (L' := [some (.ref 48), some (.int 0), some (.int (nI op)), some (.int (g 52 a))]) (st' := []) (h' := kv_wd g2 w) rfl ?_
              refine kx_st 4 (pc' := 90) (L' := [some (.ref 48), some (.int 0), some (.int (nI op)), some (.int (g 52 a))]) (st' := [.int (-(g 52 a)), .ref 49]) (h' := kv_wd g2 w) rfl ?_
              have hs2 := kx_CS_of (kx_CS_u hs r1) r2
              refine kx_call (z := 38) (as := [.ref 49, .int (-(g 52 a))]) (rest := []) (v := none) (h1 := kv_wd (kv_up (kv_up g2 50 (ln + cd1.length) (-(g 52 a))) 49 2 (nI (ln + cd1.length + 1))) w) rfl (kx_ev_le (d := 0 + 1) (by omega) (ev_add (d := 0) (ln + cd1.length) hs2.2.2.2.2 (by have := (hb1.2 rfl).2.1; omega) (-(g 52 a)))) ?_
              refine kx_st 0 (pc' := 93) (L' := [some (.ref 48), some (.int 0), some (.int (nI op)), some (.int (g 52 a))]) (st' := []) (h' := kv_wd (kv_up (kv_up g2 50 (ln + cd1.length) (-(g 52 a))) 49 2 (nI (ln + cd1.length + 1))) w) rfl ?_
              refine kx_st 2 (pc' := 95) (L' := [some (.ref 48), some (.int 0), some (.int (nI op)), some (.int (g 52 a))]) (st' := [.int 2, .int 0]) (h' := kv_wd (kv_up (kv_up g2 50 (ln + cd1.length) (-(g 52 a))) 49 2 (nI (ln + cd1.length + 1))) w) rfl ?_
              refine kx_st 1 (pc' := 100) (L' := [some (.ref 48), some (.int 0), some (.int (nI op)), some (.int (g 52 a))]) (st' := []) (h' := kv_wd (kv_up (kv_up g2 50 (ln + cd1.length) (-(g 52 a))) 49 2 (nI (ln + cd1.length + 1))) w) rfl ?_
              refine kx_st 1 (pc' := 24) (L' := [some (.ref 48), some (.int 0), some (.int (nI op)), some (.int (g 52 a))]) (st' := []) (h' := kv_wd (kv_up (kv_up g2 50 (ln + cd1.length) (-(g 52 a))) 49 2 (nI (ln + cd1.length + 1))) w) rfl ?_
              have z := hxx2 E d (kv_up (kv_up g2 50 (ln + cd1.length) (-(g 52 a))) 49 2 (nI (ln + cd1.length + 1))) w (ln + cd1.length + 1) (some (.int (g 52 a))) P hE (kx_CS_of hs2 (kx_CR_add hs2 _)) (by omega) (fun g' r => hP g' ?_)
              · exact z
              · rw [← hs.2.2.2.1 a hlt]
                exact kx_CR_u r1 (kx_CR_t r2 (kx_CR_t (kx_CR_add hs2 _) r))
        · intro A B C v
          obtain ⟨wv, hw1, hw2⟩ := hpm A B C
          have hkey := kx_lv_0.mp hlv
          have hbt : kx_bt tx n a = 124 := by rw [show kx_bt tx n a = tx a from if_pos hlt]; exact hkey
          obtain ⟨v', hv1, hmm⟩ := hmm0 A B C (kx_jn 124 v wv)
          refine ⟨v', fun z st => ?_, ?_⟩
          · rw [kx_ex_app, hw1 rfl (v :: st), kx_ex_app, kx_ex1 hxx.1 hxx.2, hkey]
            exact hv1 z st
          · intro E d g w x2 P hs hP
            refine kx_st 2 (pc' := 9) (L' := [some (.ref 65), some (.int v), x2]) (st' := [.int (g 65 14)]) (h' := kv_wd g w) rfl ?_
            refine kx_bc (t := 57) rfl rfl (fun (h9 : g 65 14 = 0) => ?_) (fun (h9 : ¬ (g 65 14 = 0)) => ?_)
            · exact absurd h9 (by rw [hs.2.2.1]; decide)
            · refine kx_st 0 (pc' := 12) (L' := [some (.ref 65), some (.int v), x2]) (st' := []) (h' := kv_wd g w) rfl ?_
              refine kx_st 3 (pc' := 17) (L' := [some (.ref 65), some (.int v), x2]) (st' := [.int (g 65 8), .ref 65]) (h' := kv_wd g w) rfl ?_
              refine kx_call (z := 155) (as := [.ref 65, .int (g 65 8)]) (rest := []) (v := some (.int 124)) (h1 := kv_wd g w) rfl (by rw [show g 65 8 = nI a from hs.1.2.1]; have z := ev_byteAt (E := E) (d := 0) (w := w) hs n50 u1 a (by omega); rw [hbt] at z; exact kx_ev_le (by omega) z) ?_
              refine kx_st 0 (pc' := 20) (L' := [some (.ref 65), some (.int v), x2]) (st' := [.int 124]) (h' := kv_wd g w) rfl ?_
              refine kx_st 1 (pc' := 22) (L' := [some (.ref 65), some (.int v), x2]) (st' := [.int 124, .int 124]) (h' := kv_wd g w) rfl ?_
              refine kx_st 1 (pc' := 25) (L' := [some (.ref 65), some (.int v), x2]) (st' := []) (h' := kv_wd g w) rfl ?_
              refine kx_st 5 (pc' := 32) (L' := [some (.ref 65), some (.int v), x2]) (st' := [.int ((g 65 8) + 1), .ref 65]) (h' := kv_wd g w) rfl ?_
              refine kx_pf (i := 113) (k := 8) (x := ((g 65 8) + 1)) rfl rfl (by decide) rfl (Nat.le_of_ble_eq_true rfl) rfl rfl rfl ?_
              refine kx_st 1 (pc' := 36) (L' := [some (.ref 65), some (.int v), x2]) (st' := [.ref 65]) (h' := kv_wd (kv_up g 65 8 ((g 65 8) + 1)) w) rfl ?_
              have r1 := kx_RG_up hs (g 65 8 + 1) (by rw [hs.1.2.1, nI_succ])
              obtain ⟨g2, e2, r2⟩ := hw2 E d _ w (kx_RS_of hs r1)
              refine kx_call (z := 164) (as := [.ref 65]) (rest := []) (v := some (.int wv)) (h1 := kv_wd g2 w) rfl e2 ?_
              refine kx_st 0 (pc' := 39) (L' := [some (.ref 65), some (.int v), x2]) (st' := [.int wv]) (h' := kv_wd g2 w) rfl ?_
              refine kx_st 2 (pc' := 41) (L' := [some (.ref 65), some (.int v), some (.int wv)]) (st' := [.int v]) (h' := kv_wd g2 w) rfl ?_
              refine kx_bc (t := 48) rfl rfl (fun (h41 : ¬ v = 0) => ?_) (fun (h41 : ¬ (¬ v = 0)) => ?_)
              · refine kx_st 4 (pc' := 5) (L' := [some (.ref 65), some (.int 1), some (.int wv)]) (st' := []) (h' := kv_wd g2 w) rfl ?_
                rw [(show (1 : Int32) = kx_jn 124 v wv from (show (1 : Int32) = if v ≠ 0 ∨ wv ≠ 0 then (1 : Int32) else 0 from (if_pos (Or.inl h41)).symm))]
                exact hmm E d g2 w _ P (kx_RS_of (kx_RS_of hs r1) r2) (fun g' r => hP g' (kx_RG_t r1 (kx_RG_t r2 r)))
              · refine kx_st 0 (pc' := 44) (L' := [some (.ref 65), some (.int v), some (.int wv)]) (st' := []) (h' := kv_wd g2 w) rfl ?_
                refine kx_st 1 (pc' := 45) (L' := [some (.ref 65), some (.int v), some (.int wv)]) (st' := [.int wv]) (h' := kv_wd g2 w) rfl ?_
                refine kx_bc (t := 52) rfl rfl (fun (h45 : wv = 0) => ?_) (fun (h45 : ¬ (wv = 0)) => ?_)
                · refine kx_st 3 (pc' := 5) (L' := [some (.ref 65), some (.int 0), some (.int wv)]) (st' := []) (h' := kv_wd g2 w) rfl ?_
                  rw [(show (0 : Int32) = kx_jn 124 v wv from (show (0 : Int32) = if v ≠ 0 ∨ wv ≠ 0 then (1 : Int32) else 0 from (if_neg (fun z => z.elim h41 (fun z => z h45))).symm))]
                  exact hmm E d g2 w _ P (kx_RS_of (kx_RS_of hs r1) r2) (fun g' r => hP g' (kx_RG_t r1 (kx_RG_t r2 r)))
                · refine kx_st 0 (pc' := 48) (L' := [some (.ref 65), some (.int v), some (.int wv)]) (st' := []) (h' := kv_wd g2 w) rfl ?_
                  refine kx_st 4 (pc' := 5) (L' := [some (.ref 65), some (.int 1), some (.int wv)]) (st' := []) (h' := kv_wd g2 w) rfl ?_
                  rw [(show (1 : Int32) = kx_jn 124 v wv from (show (1 : Int32) = if v ≠ 0 ∨ wv ≠ 0 then (1 : Int32) else 0 from (if_pos (Or.inr h45)).symm))]
                  exact hmm E d g2 w _ P (kx_RS_of (kx_RS_of hs r1) r2) (fun g' r => hP g' (kx_RG_t r1 (kx_RG_t r2 r)))
      | false =>
        refine ⟨false, a2, [], ⟨⟨by omega, hb1.1.2⟩, fun z => nomatch z⟩, ?_, ?_⟩
        · intro E d g w ln x3 P hE hs hln hP
          refine kx_st 4 (pc' := 32) (L' := [some (.ref 48), some (.int 0), some (.int (nI op)), x3]) (st' := [.int (g 48 2), .int (g 48 3)]) (h' := kv_wd g w) rfl ?_
          refine kx_bi (t := 103) rfl rfl (fun (h32 : g 48 2 ≤ g 48 3) => ?_) (fun (h32 : ¬ (g 48 2 ≤ g 48 3)) => ?_)
          · exact absurd h32 (by rw [hs.2.1, hs.1]; exact nI_ge (a := a) (b := n) hlt (by omega))
          · refine kx_st 0 (pc' := 35) (L' := [some (.ref 48), some (.int 0), some (.int (nI op)), x3]) (st' := []) (h' := kv_wd g w) rfl ?_
            refine kx_st 4 (pc' := 43) (L' := [some (.ref 48), some (.int 0), some (.int (nI op)), x3]) (st' := [.int (g 48 3), .ref 52]) (h' := kv_wd g w) rfl ?_
            refine kx_ia (k := a) rfl rfl (by decide) hs.2.1 (by omega) (by decide) ?_
            refine kx_call (z := 48) (as := [.int (g 52 a)]) (rest := []) (v := some (.int (kx_lv (g 52 a)))) (h1 := kv_wd g w) rfl (kx_ev_le (d := 0 + 1) (by omega) (ev_levelOf (d := 0) _)) ?_
            refine kx_st 0 (pc' := 47) (L' := [some (.ref 48), some (.int 0), some (.int (nI op)), x3]) (st' := [.int (kx_lv (g 52 a))]) (h' := kv_wd g w) rfl ?_
            refine kx_st 1 (pc' := 48) (L' := [some (.ref 48), some (.int 0), some (.int (nI op)), x3]) (st' := [.int 0, .int (kx_lv (g 52 a))]) (h' := kv_wd g w) rfl ?_
            refine kx_bi (t := 103) rfl rfl (fun (h48 : ¬ kx_lv (g 52 a) = 0) => ?_) (fun (h48 : ¬ (¬ kx_lv (g 52 a) = 0)) => ?_)
            · exact absurd (by rw [hs.2.2.2.1 a hlt]; exact hlv) h48
            · refine kx_st 0 (pc' := 51) (L' := [some (.ref 48), some (.int 0), some (.int (nI op)), x3]) (st' := []) (h' := kv_wd g w) rfl ?_
              refine kx_st 4 (pc' := 59) (L' := [some (.ref 48), some (.int 0), some (.int (nI op)), x3]) (st' := [.int (g 48 3), .ref 52]) (h' := kv_wd g w) rfl ?_
              refine kx_ia (k := a) rfl rfl (by decide) hs.2.1 (by omega) (by decide) ?_
              refine kx_st 6 (pc' := 68) (L' := [some (.ref 48), some (.int 0), some (.int (nI op)), some (.int (g 52 a))]) (st' := [.int ((g 48 3) + 1), .ref 48]) (h' := kv_wd g w) rfl ?_
              refine kx_pf (i := 28) (k := 3) (x := ((g 48 3) + 1)) rfl rfl (by decide) rfl (Nat.le_of_ble_eq_true rfl) rfl rfl rfl ?_
              refine kx_st 5 (pc' := 76) (L' := [some (.ref 48), some (.int 0), some (.int (nI op)), some (.int (g 52 a))]) (st' := [.int (nI op), .int 1, .ref 48]) (h' := kv_wd (kv_up g 48 3 ((g 48 3) + 1)) w) rfl ?_
              have r1 := (kx_CR_up hs (g 48 3 + 1) (by rw [hs.2.1, nI_succ]))
              obtain ⟨g2, e2, r2⟩ := hpx E d _ w ln hE (kx_CS_u hs r1) (by omega)
              refine kx_call (z := 47) (as := [.ref 48, .int 1, .int (nI op)]) (rest := []) (v := some (.int 0)) (h1 := kv_wd g2 w) rfl e2 ?_
              refine kx_st 0 (pc' := 79) (L' := [some (.ref 48), some (.int 0), some (.int (nI op)), some (.int (g 52 a))]) (st' := [.int 0]) (h' := kv_wd g2 w) rfl ?_
              refine kx_st 1 (pc' := 82) (L' := [some (.ref 48), some (.int 0), some (.int (nI op)), some (.int (g 52 a))]) (st' := []) (h' := kv_wd g2 w) rfl ?_
              refine kx_st 1 (pc' := 83) (L' := [some (.ref 48), some (.int 0), some (.int (nI op)), some (.int (g 52 a))]) (st' := [.int 0]) (h' := kv_wd g2 w) rfl ?_
              refine kx_ret (v := some (.int 0)) rfl ?_
              exact hP g2 (kx_CR_f r1 r2)
        · intro A B C v
          obtain ⟨wv, hw1, hw2⟩ := hpm A B C
          have hkey := kx_lv_0.mp hlv
          have hbt : kx_bt tx n a = 124 := by rw [show kx_bt tx n a = tx a from if_pos hlt]; exact hkey
          refine ⟨kx_jn 124 v wv, (fun z => nomatch z), ?_⟩
          intro E d g w x2 P hs hP
          refine kx_st 2 (pc' := 9) (L' := [some (.ref 65), some (.int v), x2]) (st' := [.int (g 65 14)]) (h' := kv_wd g w) rfl ?_
          refine kx_bc (t := 57) rfl rfl (fun (h9 : g 65 14 = 0) => ?_) (fun (h9 : ¬ (g 65 14 = 0)) => ?_)
          · exact absurd h9 (by rw [hs.2.2.1]; decide)
          · refine kx_st 0 (pc' := 12) (L' := [some (.ref 65), some (.int v), x2]) (st' := []) (h' := kv_wd g w) rfl ?_
            refine kx_st 3 (pc' := 17) (L' := [some (.ref 65), some (.int v), x2]) (st' := [.int (g 65 8), .ref 65]) (h' := kv_wd g w) rfl ?_
            refine kx_call (z := 155) (as := [.ref 65, .int (g 65 8)]) (rest := []) (v := some (.int 124)) (h1 := kv_wd g w) rfl (by rw [show g 65 8 = nI a from hs.1.2.1]; have z := ev_byteAt (E := E) (d := 0) (w := w) hs n50 u1 a (by omega); rw [hbt] at z; exact kx_ev_le (by omega) z) ?_
            refine kx_st 0 (pc' := 20) (L' := [some (.ref 65), some (.int v), x2]) (st' := [.int 124]) (h' := kv_wd g w) rfl ?_
            refine kx_st 1 (pc' := 22) (L' := [some (.ref 65), some (.int v), x2]) (st' := [.int 124, .int 124]) (h' := kv_wd g w) rfl ?_
            refine kx_st 1 (pc' := 25) (L' := [some (.ref 65), some (.int v), x2]) (st' := []) (h' := kv_wd g w) rfl ?_
            refine kx_st 5 (pc' := 32) (L' := [some (.ref 65), some (.int v), x2]) (st' := [.int ((g 65 8) + 1), .ref 65]) (h' := kv_wd g w) rfl ?_
            refine kx_pf (i := 113) (k := 8) (x := ((g 65 8) + 1)) rfl rfl (by decide) rfl (Nat.le_of_ble_eq_true rfl) rfl rfl rfl ?_
            refine kx_st 1 (pc' := 36) (L' := [some (.ref 65), some (.int v), x2]) (st' := [.ref 65]) (h' := kv_wd (kv_up g 65 8 ((g 65 8) + 1)) w) rfl ?_
            have r1 := kx_RG_up hs (g 65 8 + 1) (by rw [hs.1.2.1, nI_succ])
            obtain ⟨g2, e2, r2⟩ := hw2 E d _ w (kx_RS_of hs r1)
            refine kx_call (z := 164) (as := [.ref 65]) (rest := []) (v := some (.int wv)) (h1 := kv_wd g2 w) rfl e2 ?_
            refine kx_st 0 (pc' := 39) (L' := [some (.ref 65), some (.int v), x2]) (st' := [.int wv]) (h' := kv_wd g2 w) rfl ?_
            refine kx_st 2 (pc' := 41) (L' := [some (.ref 65), some (.int v), some (.int wv)]) (st' := [.int v]) (h' := kv_wd g2 w) rfl ?_
            refine kx_bc (t := 48) rfl rfl (fun (h41 : ¬ v = 0) => ?_) (fun (h41 : ¬ (¬ v = 0)) => ?_)
            · refine kx_st 4 (pc' := 5) (L' := [some (.ref 65), some (.int 1), some (.int wv)]) (st' := []) (h' := kv_wd g2 w) rfl ?_
              rw [(show (1 : Int32) = kx_jn 124 v wv from (show (1 : Int32) = if v ≠ 0 ∨ wv ≠ 0 then (1 : Int32) else 0 from (if_pos (Or.inl h41)).symm))]
              refine kx_st 2 (pc' := 9) (L' := [some (.ref 65), some (.int (kx_jn 124 v wv)), some (.int wv)]) (st' := [.int (g2 65 14)]) (h' := kv_wd g2 w) rfl ?_
              refine kx_bc (t := 57) rfl rfl (fun (y9 : g2 65 14 = 0) => ?_) (fun (y9 : ¬ (g2 65 14 = 0)) => ?_)
              · refine kx_st 1 (pc' := 58) (L' := [some (.ref 65), some (.int (kx_jn 124 v wv)), some (.int wv)]) (st' := [.int (kx_jn 124 v wv)]) (h' := kv_wd g2 w) rfl ?_
                refine kx_ret (v := some (.int (kx_jn 124 v wv))) rfl ?_
                exact hP g2 (kx_RG_t r1 r2)
              · exact absurd (show g2 65 14 = 0 by rw [r2.2.2.2.1]; rfl) y9
            · refine kx_st 0 (pc' := 44) (L' := [some (.ref 65), some (.int v), some (.int wv)]) (st' := []) (h' := kv_wd g2 w) rfl ?_
              refine kx_st 1 (pc' := 45) (L' := [some (.ref 65), some (.int v), some (.int wv)]) (st' := [.int wv]) (h' := kv_wd g2 w) rfl ?_
              refine kx_bc (t := 52) rfl rfl (fun (h45 : wv = 0) => ?_) (fun (h45 : ¬ (wv = 0)) => ?_)
              · refine kx_st 3 (pc' := 5) (L' := [some (.ref 65), some (.int 0), some (.int wv)]) (st' := []) (h' := kv_wd g2 w) rfl ?_
                rw [(show (0 : Int32) = kx_jn 124 v wv from (show (0 : Int32) = if v ≠ 0 ∨ wv ≠ 0 then (1 : Int32) else 0 from (if_neg (fun z => z.elim h41 (fun z => z h45))).symm))]
                refine kx_st 2 (pc' := 9) (L' := [some (.ref 65), some (.int (kx_jn 124 v wv)), some (.int wv)]) (st' := [.int (g2 65 14)]) (h' := kv_wd g2 w) rfl ?_
                refine kx_bc (t := 57) rfl rfl (fun (y9 : g2 65 14 = 0) => ?_) (fun (y9 : ¬ (g2 65 14 = 0)) => ?_)
                · refine kx_st 1 (pc' := 58) (L' := [some (.ref 65), some (.int (kx_jn 124 v wv)), some (.int wv)]) (st' := [.int (kx_jn 124 v wv)]) (h' := kv_wd g2 w) rfl ?_
                  refine kx_ret (v := some (.int (kx_jn 124 v wv))) rfl ?_
                  exact hP g2 (kx_RG_t r1 r2)
                · exact absurd (show g2 65 14 = 0 by rw [r2.2.2.2.1]; rfl) y9
              · refine kx_st 0 (pc' := 48) (L' := [some (.ref 65), some (.int v), some (.int wv)]) (st' := []) (h' := kv_wd g2 w) rfl ?_
                refine kx_st 4 (pc' := 5) (L' := [some (.ref 65), some (.int 1), some (.int wv)]) (st' := []) (h' := kv_wd g2 w) rfl ?_
                rw [(show (1 : Int32) = kx_jn 124 v wv from (show (1 : Int32) = if v ≠ 0 ∨ wv ≠ 0 then (1 : Int32) else 0 from (if_pos (Or.inr h45)).symm))]
                refine kx_st 2 (pc' := 9) (L' := [some (.ref 65), some (.int (kx_jn 124 v wv)), some (.int wv)]) (st' := [.int (g2 65 14)]) (h' := kv_wd g2 w) rfl ?_
                refine kx_bc (t := 57) rfl rfl (fun (y9 : g2 65 14 = 0) => ?_) (fun (y9 : ¬ (g2 65 14 = 0)) => ?_)
                · refine kx_st 1 (pc' := 58) (L' := [some (.ref 65), some (.int (kx_jn 124 v wv)), some (.int wv)]) (st' := [.int (kx_jn 124 v wv)]) (h' := kv_wd g2 w) rfl ?_
                  refine kx_ret (v := some (.int (kx_jn 124 v wv))) rfl ?_
                  exact hP g2 (kx_RG_t r1 r2)
                · exact absurd (show g2 65 14 = 0 by rw [r2.2.2.2.1]; rfl) y9
    · refine ⟨true, a, [], ⟨⟨Nat.le_refl _, han⟩, fun _ => ⟨by simp, by show 2 * 0 ≤ _; omega⟩⟩, ?_, ?_⟩
      · intro E d g w ln x3 P hE hs hln hP
        refine kx_st 4 (pc' := 32) (L' := [some (.ref 48), some (.int 0), some (.int (nI op)), x3]) (st' := [.int (g 48 2), .int (g 48 3)]) (h' := kv_wd g w) rfl ?_
        refine kx_bi (t := 103) rfl rfl (fun (h32 : g 48 2 ≤ g 48 3) => ?_) (fun (h32 : ¬ (g 48 2 ≤ g 48 3)) => ?_)
        · refine kx_st 1 (pc' := 104) (L' := [some (.ref 48), some (.int 0), some (.int (nI op)), x3]) (st' := [.int 1]) (h' := kv_wd g w) rfl ?_
          refine kx_ret (v := some (.int 1)) rfl ?_
          exact hP g (kx_CR_0 hs true)
        · refine kx_st 0 (pc' := 35) (L' := [some (.ref 48), some (.int 0), some (.int (nI op)), x3]) (st' := []) (h' := kv_wd g w) rfl ?_
          refine kx_st 4 (pc' := 43) (L' := [some (.ref 48), some (.int 0), some (.int (nI op)), x3]) (st' := [.int (g 48 3), .ref 52]) (h' := kv_wd g w) rfl ?_
          refine kx_ia (k := a) rfl rfl (by decide) hs.2.1 (by have : a < n := (fun z => Classical.not_not.mp (fun y => z (by rw [hs.2.1, hs.1]; exact nI_le (by omega) (by omega)))) h32; omega) (by decide) ?_
          refine kx_call (z := 48) (as := [.int (g 52 a)]) (rest := []) (v := some (.int (kx_lv (g 52 a)))) (h1 := kv_wd g w) rfl (kx_ev_le (d := 0 + 1) (by omega) (ev_levelOf (d := 0) _)) ?_
          refine kx_st 0 (pc' := 47) (L' := [some (.ref 48), some (.int 0), some (.int (nI op)), x3]) (st' := [.int (kx_lv (g 52 a))]) (h' := kv_wd g w) rfl ?_
          refine kx_st 1 (pc' := 48) (L' := [some (.ref 48), some (.int 0), some (.int (nI op)), x3]) (st' := [.int 0, .int (kx_lv (g 52 a))]) (h' := kv_wd g w) rfl ?_
          refine kx_bi (t := 103) rfl rfl (fun (h48 : ¬ kx_lv (g 52 a) = 0) => ?_) (fun (h48 : ¬ (¬ kx_lv (g 52 a) = 0)) => ?_)
          · refine kx_st 1 (pc' := 104) (L' := [some (.ref 48), some (.int 0), some (.int (nI op)), x3]) (st' := [.int 1]) (h' := kv_wd g w) rfl ?_
            refine kx_ret (v := some (.int 1)) rfl ?_
            exact hP g (kx_CR_0 hs true)
          · exact absurd ⟨(fun z => Classical.not_not.mp (fun y => z (by rw [hs.2.1, hs.1]; exact nI_le (by omega) (by omega)))) h32, by rw [← hs.2.2.2.1 a ((fun z => Classical.not_not.mp (fun y => z (by rw [hs.2.1, hs.1]; exact nI_le (by omega) (by omega)))) h32)]; exact Classical.not_not.mp h48⟩ hk
      · intro A B C v
        refine ⟨v, fun _ st => rfl, ?_⟩
        intro E d g w x2 P hs hP
        refine kx_st 2 (pc' := 9) (L' := [some (.ref 65), some (.int v), x2]) (st' := [.int (g 65 14)]) (h' := kv_wd g w) rfl ?_
        refine kx_bc (t := 57) rfl rfl (fun (h9 : g 65 14 = 0) => ?_) (fun (h9 : ¬ (g 65 14 = 0)) => ?_)
        · exact absurd h9 (by rw [hs.2.2.1]; decide)
        · refine kx_st 0 (pc' := 12) (L' := [some (.ref 65), some (.int v), x2]) (st' := []) (h' := kv_wd g w) rfl ?_
          refine kx_st 3 (pc' := 17) (L' := [some (.ref 65), some (.int v), x2]) (st' := [.int (g 65 8), .ref 65]) (h' := kv_wd g w) rfl ?_
          refine kx_call (z := 155) (as := [.ref 65, .int (g 65 8)]) (rest := []) (v := some (.int (kx_bt tx n a))) (h1 := kv_wd g w) rfl (by rw [show g 65 8 = nI a from hs.1.2.1]; exact kx_ev_le (d := 0 + 1) (by omega) (ev_byteAt (d := 0) hs n50 u1 a (by omega))) ?_
          refine kx_st 0 (pc' := 20) (L' := [some (.ref 65), some (.int v), x2]) (st' := [.int (kx_bt tx n a)]) (h' := kv_wd g w) rfl ?_
          refine kx_st 1 (pc' := 22) (L' := [some (.ref 65), some (.int v), x2]) (st' := [.int 124, .int (kx_bt tx n a)]) (h' := kv_wd g w) rfl ?_
          refine kx_bi (t := 57) rfl rfl (fun (h22 : ¬ kx_bt tx n a = 124) => ?_) (fun (h22 : ¬ (¬ kx_bt tx n a = 124)) => ?_)
          · refine kx_st 1 (pc' := 58) (L' := [some (.ref 65), some (.int v), x2]) (st' := [.int v]) (h' := kv_wd g w) rfl ?_
            refine kx_ret (v := some (.int v)) rfl ?_
            exact hP g (kx_RG_0 hs)
          · exact absurd (Classical.not_not.mp h22) (kx_bn_124 hk)
set_option maxRecDepth 100000 in
theorem kx_pl_0 {tx : Nat → Int32} {n u op : Nat} (n50 : n ≤ 50) (u1 : u ≤ 1) (hn : ∀ a, a ≤ n → kx_PL tx n u 1 8 164 op a) : ∀ a, a ≤ n → kx_PL tx n u 0 9 165 op a := by
  intro a han
  obtain ⟨ok1, a2, cd1, hb1, hpx, hpm⟩ := hn a han
  have hbb := hb1.1
  cases ok1 with
  | false =>
    refine ⟨false, a2, [], ⟨hbb, fun z => nomatch z⟩, ?_, ?_⟩
    · intro E d g w ln hE hs hln
      obtain ⟨v0, hf, he, rfl, g', rfl, hh⟩ := kx_evP (E := E) (d := d + (8 * (5 - op) + 8)) (y := 47) (h := kv_wd g w) (as := [.ref 48, .int 0, .int (nI op)]) (P := fun v0 h => v0 = (some (.int 0) : Option Value) ∧ ∃ g' : kv_S, h = kv_wd g' w ∧ kx_CR g g' a2 false ln []) (by decide) (Nat.le_of_ble_eq_true rfl) (by
        refine kx_st 0 (pc' := 0) (L' := [some (.ref 48), some (.int 0), some (.int (nI op)), none]) (st' := []) (h' := kv_wd g w) rfl ?_
        refine kx_st 2 (pc' := 2) (L' := [some (.ref 48), some (.int 0), some (.int (nI op)), none]) (st' := [.int 5, .int 0]) (h' := kv_wd g w) rfl ?_
        refine kx_st 1 (pc' := 11) (L' := [some (.ref 48), some (.int 0), some (.int (nI op)), none]) (st' := []) (h' := kv_wd g w) rfl ?_
        refine kx_st 5 (pc' := 16) (L' := [some (.ref 48), some (.int 0), some (.int (nI op)), none]) (st' := [.int (nI op), .int 1, .ref 48]) (h' := kv_wd g w) rfl ?_
        obtain ⟨g2, e2, r2⟩ := hpx E d g w ln hE hs hln
        refine kx_call (z := 47) (as := [.ref 48, .int 1, .int (nI op)]) (rest := []) (v := some (.int 0)) (h1 := kv_wd g2 w) rfl e2 ?_
        refine kx_st 0 (pc' := 19) (L' := [some (.ref 48), some (.int 0), some (.int (nI op)), none]) (st' := [.int 0]) (h' := kv_wd g2 w) rfl ?_
        refine kx_st 1 (pc' := 22) (L' := [some (.ref 48), some (.int 0), some (.int (nI op)), none]) (st' := []) (h' := kv_wd g2 w) rfl ?_
        refine kx_st 1 (pc' := 23) (L' := [some (.ref 48), some (.int 0), some (.int (nI op)), none]) (st' := [.int 0]) (h' := kv_wd g2 w) rfl ?_
        refine kx_ret (v := some (.int 0)) rfl ?_
        exact ⟨rfl, _, rfl, r2.1, r2.2.1, r2.2.2.1, fun z => nomatch z⟩)
      exact ⟨g', kx_ev_le (by omega) he, hh⟩
    · intro A B C
      obtain ⟨v, hv1, hv2⟩ := hpm A B C
      refine ⟨v, (fun z => nomatch z), ?_⟩
      intro E d g w hs
      obtain ⟨v0, hf, he, rfl, g', rfl, hh⟩ := kx_evP (E := E) (d := d + (6 * (5 - op) + 8)) (y := 165) (h := kv_wd g w) (as := [.ref 65]) (P := fun v0 h => v0 = (some (.int v) : Option Value) ∧ ∃ g' : kv_S, h = kv_wd g' w ∧ kx_RG g g' a2 op false) (by decide) (Nat.le_of_ble_eq_true rfl) (by
        refine kx_st 0 (pc' := 0) (L' := [some (.ref 65), none, none]) (st' := []) (h' := kv_wd g w) rfl ?_
        refine kx_st 1 (pc' := 1) (L' := [some (.ref 65), none, none]) (st' := [.ref 65]) (h' := kv_wd g w) rfl ?_
        obtain ⟨g2, e2, r2⟩ := hv2 E d g w hs
        refine kx_call (z := 164) (as := [.ref 65]) (rest := []) (v := some (.int v)) (h1 := kv_wd g2 w) rfl e2 ?_
        refine kx_st 0 (pc' := 4) (L' := [some (.ref 65), none, none]) (st' := [.int v]) (h' := kv_wd g2 w) rfl ?_
        refine kx_st 3 (pc' := 9) (L' := [some (.ref 65), some (.int v), none]) (st' := [.int (g2 65 14)]) (h' := kv_wd g2 w) rfl ?_
        refine kx_bc (t := 57) rfl rfl (fun (h9 : g2 65 14 = 0) => ?_) (fun (h9 : ¬ (g2 65 14 = 0)) => ?_)
        · refine kx_st 1 (pc' := 58) (L' := [some (.ref 65), some (.int v), none]) (st' := [.int v]) (h' := kv_wd g2 w) rfl ?_
          refine kx_ret (v := some (.int v)) rfl ?_
          exact ⟨rfl, _, rfl, r2⟩
        · exact absurd (show g2 65 14 = 0 by rw [r2.2.2.2.1]; rfl) h9)
      exact ⟨g', kx_ev_le (by omega) he, hh⟩
  | true =>
    obtain ⟨ok, a3, tl, hbt0, hxx2, hmm0⟩ := kx_tl_0 n50 u1 hn (n - a2) a2 (Nat.le_refl _) (by omega)
    have q1 := hb1.2 rfl
    refine ⟨ok, a3, cd1 ++ tl, ⟨⟨by have := hbt0.1; omega, hbt0.1.2⟩, fun z => ?_⟩, ?_, ?_⟩
    · have q2 := hbt0.2 z
      have q3 := hbt0.1
      rw [List.length_append, kx_nv_app]
      omega
    · intro E d g w ln hE hs hln
      obtain ⟨v0, hf, he, rfl, g', rfl, hh⟩ := kx_evP (E := E) (d := d + (8 * (5 - op) + 8)) (y := 47) (h := kv_wd g w) (as := [.ref 48, .int 0, .int (nI op)]) (P := fun v0 h => v0 = (some (.int (kx_ob ok)) : Option Value) ∧ ∃ g' : kv_S, h = kv_wd g' w ∧ kx_CR g g' a3 ok ln (cd1 ++ tl)) (by decide) (Nat.le_of_ble_eq_true rfl) (by
        refine kx_st 0 (pc' := 0) (L' := [some (.ref 48), some (.int 0), some (.int (nI op)), none]) (st' := []) (h' := kv_wd g w) rfl ?_
        refine kx_st 2 (pc' := 2) (L' := [some (.ref 48), some (.int 0), some (.int (nI op)), none]) (st' := [.int 5, .int 0]) (h' := kv_wd g w) rfl ?_
        refine kx_st 1 (pc' := 11) (L' := [some (.ref 48), some (.int 0), some (.int (nI op)), none]) (st' := []) (h' := kv_wd g w) rfl ?_
        refine kx_st 5 (pc' := 16) (L' := [some (.ref 48), some (.int 0), some (.int (nI op)), none]) (st' := [.int (nI op), .int 1, .ref 48]) (h' := kv_wd g w) rfl ?_
        obtain ⟨g2, e2, r2⟩ := hpx E d g w ln hE hs hln
        refine kx_call (z := 47) (as := [.ref 48, .int 1, .int (nI op)]) (rest := []) (v := some (.int 1)) (h1 := kv_wd g2 w) rfl e2 ?_
        refine kx_st 0 (pc' := 19) (L' := [some (.ref 48), some (.int 0), some (.int (nI op)), none]) (st' := [.int 1]) (h' := kv_wd g2 w) rfl ?_
        refine kx_st 1 (pc' := 24) (L' := [some (.ref 48), some (.int 0), some (.int (nI op)), none]) (st' := []) (h' := kv_wd g2 w) rfl ?_
        exact hxx2 E d g2 w (ln + cd1.length) none _ hE (kx_CS_of hs r2) (by omega) (fun g' r => ⟨rfl, g', rfl, kx_CR_t r2 r⟩))
      exact ⟨g', kx_ev_le (by omega) he, hh⟩
    · intro A B C
      obtain ⟨v, hv1, hv2⟩ := hpm A B C
      obtain ⟨v', hv3, hmm⟩ := hmm0 A B C v
      refine ⟨v', fun z st => ?_, ?_⟩
      · rw [kx_ex_app, hv1 rfl st]; exact hv3 z st
      · intro E d g w hs
        obtain ⟨v0, hf, he, rfl, g', rfl, hh⟩ := kx_evP (E := E) (d := d + (6 * (5 - op) + 8)) (y := 165) (h := kv_wd g w) (as := [.ref 65]) (P := fun v0 h => v0 = (some (.int v') : Option Value) ∧ ∃ g' : kv_S, h = kv_wd g' w ∧ kx_RG g g' a3 op ok) (by decide) (Nat.le_of_ble_eq_true rfl) (by
          refine kx_st 0 (pc' := 0) (L' := [some (.ref 65), none, none]) (st' := []) (h' := kv_wd g w) rfl ?_
          refine kx_st 1 (pc' := 1) (L' := [some (.ref 65), none, none]) (st' := [.ref 65]) (h' := kv_wd g w) rfl ?_
          obtain ⟨g2, e2, r2⟩ := hv2 E d g w hs
          refine kx_call (z := 164) (as := [.ref 65]) (rest := []) (v := some (.int v)) (h1 := kv_wd g2 w) rfl e2 ?_
          refine kx_st 0 (pc' := 4) (L' := [some (.ref 65), none, none]) (st' := [.int v]) (h' := kv_wd g2 w) rfl ?_
          refine kx_st 1 (pc' := 5) (L' := [some (.ref 65), some (.int v), none]) (st' := []) (h' := kv_wd g2 w) rfl ?_
          exact hmm E d g2 w none _ (kx_RS_of hs r2) (fun g' r => ⟨rfl, g', rfl, kx_RG_t r2 r⟩))
        exact ⟨g', kx_ev_le (by omega) he, hh⟩
set_option maxRecDepth 100000 in
theorem kx_pl_2 {tx : Nat → Int32} {n u op : Nat} (n50 : n ≤ 50) (u1 : u ≤ 1) (hn : ∀ a, a ≤ n → kx_PL tx n u 3 6 162 op a) : ∀ a, a ≤ n → kx_PL tx n u 2 7 163 op a := by
  intro a han
  obtain ⟨ok1, a2, cd1, hb1, hpx, hpm⟩ := hn a han
  have hbb := hb1.1
  cases ok1 with
  | false =>
    refine ⟨false, a2, [], ⟨hbb, fun z => nomatch z⟩, ?_, ?_⟩
    · intro E d g w ln hE hs hln
      obtain ⟨v0, hf, he, rfl, g', rfl, hh⟩ := kx_evP (E := E) (d := d + (8 * (5 - op) + 6)) (y := 47) (h := kv_wd g w) (as := [.ref 48, .int 2, .int (nI op)]) (P := fun v0 h => v0 = (some (.int 0) : Option Value) ∧ ∃ g' : kv_S, h = kv_wd g' w ∧ kx_CR g g' a2 false ln []) (by decide) (Nat.le_of_ble_eq_true rfl) (by
        refine kx_st 0 (pc' := 0) (L' := [some (.ref 48), some (.int 2), some (.int (nI op)), none]) (st' := []) (h' := kv_wd g w) rfl ?_
        refine kx_st 2 (pc' := 2) (L' := [some (.ref 48), some (.int 2), some (.int (nI op)), none]) (st' := [.int 5, .int 2]) (h' := kv_wd g w) rfl ?_
        refine kx_st 1 (pc' := 11) (L' := [some (.ref 48), some (.int 2), some (.int (nI op)), none]) (st' := []) (h' := kv_wd g w) rfl ?_
        refine kx_st 5 (pc' := 16) (L' := [some (.ref 48), some (.int 2), some (.int (nI op)), none]) (st' := [.int (nI op), .int 3, .ref 48]) (h' := kv_wd g w) rfl ?_
        obtain ⟨g2, e2, r2⟩ := hpx E d g w ln hE hs hln
        refine kx_call (z := 47) (as := [.ref 48, .int 3, .int (nI op)]) (rest := []) (v := some (.int 0)) (h1 := kv_wd g2 w) rfl e2 ?_
        refine kx_st 0 (pc' := 19) (L' := [some (.ref 48), some (.int 2), some (.int (nI op)), none]) (st' := [.int 0]) (h' := kv_wd g2 w) rfl ?_
        refine kx_st 1 (pc' := 22) (L' := [some (.ref 48), some (.int 2), some (.int (nI op)), none]) (st' := []) (h' := kv_wd g2 w) rfl ?_
        refine kx_st 1 (pc' := 23) (L' := [some (.ref 48), some (.int 2), some (.int (nI op)), none]) (st' := [.int 0]) (h' := kv_wd g2 w) rfl ?_
        refine kx_ret (v := some (.int 0)) rfl ?_
        exact ⟨rfl, _, rfl, r2.1, r2.2.1, r2.2.2.1, fun z => nomatch z⟩)
      exact ⟨g', kx_ev_le (by omega) he, hh⟩
    · intro A B C
      obtain ⟨v, hv1, hv2⟩ := hpm A B C
      refine ⟨v, (fun z => nomatch z), ?_⟩
      intro E d g w hs
      obtain ⟨v0, hf, he, rfl, g', rfl, hh⟩ := kx_evP (E := E) (d := d + (6 * (5 - op) + 6)) (y := 163) (h := kv_wd g w) (as := [.ref 65]) (P := fun v0 h => v0 = (some (.int v) : Option Value) ∧ ∃ g' : kv_S, h = kv_wd g' w ∧ kx_RG g g' a2 op false) (by decide) (Nat.le_of_ble_eq_true rfl) (by
        refine kx_st 0 (pc' := 0) (L' := [some (.ref 65), none, none, none, none]) (st' := []) (h' := kv_wd g w) rfl ?_
        refine kx_st 1 (pc' := 1) (L' := [some (.ref 65), none, none, none, none]) (st' := [.ref 65]) (h' := kv_wd g w) rfl ?_
        obtain ⟨g2, e2, r2⟩ := hv2 E d g w hs
        refine kx_call (z := 162) (as := [.ref 65]) (rest := []) (v := some (.int v)) (h1 := kv_wd g2 w) rfl e2 ?_
        refine kx_st 0 (pc' := 4) (L' := [some (.ref 65), none, none, none, none]) (st' := [.int v]) (h' := kv_wd g2 w) rfl ?_
        refine kx_st 3 (pc' := 9) (L' := [some (.ref 65), some (.int v), none, none, none]) (st' := [.int (g2 65 14)]) (h' := kv_wd g2 w) rfl ?_
        refine kx_bc (t := 23) rfl rfl (fun (h9 : g2 65 14 = 0) => ?_) (fun (h9 : ¬ (g2 65 14 = 0)) => ?_)
        · refine kx_st 4 (pc' := 28) (L' := [some (.ref 65), some (.int v), some (.int (-1)), none, none]) (st' := [.int 60, .int (-1)]) (h' := kv_wd g2 w) rfl ?_
          refine kx_st 1 (pc' := 31) (L' := [some (.ref 65), some (.int v), some (.int (-1)), none, none]) (st' := []) (h' := kv_wd g2 w) rfl ?_
          refine kx_st 2 (pc' := 34) (L' := [some (.ref 65), some (.int v), some (.int (-1)), none, none]) (st' := [.int 61, .int (-1)]) (h' := kv_wd g2 w) rfl ?_
          refine kx_st 1 (pc' := 37) (L' := [some (.ref 65), some (.int v), some (.int (-1)), none, none]) (st' := []) (h' := kv_wd g2 w) rfl ?_
          refine kx_st 2 (pc' := 40) (L' := [some (.ref 65), some (.int v), some (.int (-1)), none, none]) (st' := [.int 62, .int (-1)]) (h' := kv_wd g2 w) rfl ?_
          refine kx_st 1 (pc' := 43) (L' := [some (.ref 65), some (.int v), some (.int (-1)), none, none]) (st' := []) (h' := kv_wd g2 w) rfl ?_
          refine kx_st 1 (pc' := 44) (L' := [some (.ref 65), some (.int v), some (.int (-1)), none, none]) (st' := [.int v]) (h' := kv_wd g2 w) rfl ?_
          refine kx_ret (v := some (.int v)) rfl ?_
          exact ⟨rfl, _, rfl, r2⟩
        · exact absurd (show g2 65 14 = 0 by rw [r2.2.2.2.1]; rfl) h9)
      exact ⟨g', kx_ev_le (by omega) he, hh⟩
  | true =>
    have q1 := hb1.2 rfl
    by_cases hk : a2 < n ∧ kx_lv (tx a2) = 2
    · obtain ⟨hlt, hlv⟩ := hk
      obtain ⟨ok2, a3, cd2, hb2, hpx2, hpm2⟩ := hn (a2 + 1) (by omega)
      have hb3 := hb2.1
      have hxx : ¬ -3 ≤ -(tx a2) ∧ ¬ -(tx a2) = -33 := by
        rcases kx_lv_2.mp hlv with h | h | h
        · rw [h]; decide
        · rw [h]; decide
        · rw [h]; decide
      refine ⟨ok2, a3, cd1 ++ (cd2 ++ [-(tx a2)]), ⟨⟨by omega, hb2.1.2⟩, fun z => ?_⟩, ?_, ?_⟩
      · have q2 := hb2.2 z
        rw [List.length_append, List.length_append, kx_nv_app, kx_nv_app, kx_nv1 hxx.1, List.length_singleton]
        omega
      · intro E d g w ln hE hs hln
        cases ok2 with
        | true =>
          obtain ⟨v0, hf, he, rfl, g', rfl, hh⟩ := kx_evP (E := E) (d := d + (8 * (5 - op) + 6)) (y := 47) (h := kv_wd g w) (as := [.ref 48, .int 2, .int (nI op)]) (P := fun v0 h => v0 = (some (.int 1) : Option Value) ∧ ∃ g' : kv_S, h = kv_wd g' w ∧ kx_CR g g' a3 true ln (cd1 ++ (cd2 ++ [-(tx a2)]))) (by decide) (Nat.le_of_ble_eq_true rfl) (by
            refine kx_st 0 (pc' := 0) (L' := [some (.ref 48), some (.int 2), some (.int (nI op)), none]) (st' := []) (h' := kv_wd g w) rfl ?_
            refine kx_st 2 (pc' := 2) (L' := [some (.ref 48), some (.int 2), some (.int (nI op)), none]) (st' := [.int 5, .int 2]) (h' := kv_wd g w) rfl ?_
            refine kx_st 1 (pc' := 11) (L' := [some (.ref 48), some (.int 2), some (.int (nI op)), none]) (st' := []) (h' := kv_wd g w) rfl ?_
            refine kx_st 5 (pc' := 16) (L' := [some (.ref 48), some (.int 2), some (.int (nI op)), none]) (st' := [.int (nI op), .int 3, .ref 48]) (h' := kv_wd g w) rfl ?_
            obtain ⟨g2, e2, r2⟩ := hpx E d g w ln hE hs hln
            have hs2 := kx_CS_of hs r2
            refine kx_call (z := 47) (as := [.ref 48, .int 3, .int (nI op)]) (rest := []) (v := some (.int 1)) (h1 := kv_wd g2 w) rfl e2 ?_
            refine kx_st 0 (pc' := 19) (L' := [some (.ref 48), some (.int 2), some (.int (nI op)), none]) (st' := [.int 1]) (h' := kv_wd g2 w) rfl ?_
            refine kx_st 1 (pc' := 24) (L' := [some (.ref 48), some (.int 2), some (.int (nI op)), none]) (st' := []) (h' := kv_wd g2 w) rfl ?_
            refine kx_st 4 (pc' := 32) (L' := [some (.ref 48), some (.int 2), some (.int (nI op)), none]) (st' := [.int (g2 48 2), .int (g2 48 3)]) (h' := kv_wd g2 w) rfl ?_
            refine kx_bi (t := 103) rfl rfl (fun (h32 : g2 48 2 ≤ g2 48 3) => ?_) (fun (h32 : ¬ (g2 48 2 ≤ g2 48 3)) => ?_)
            · exact absurd h32 (by rw [hs2.2.1, hs2.1]; exact nI_ge (a := a2) (b := n) hlt (by omega))
            · refine kx_st 0 (pc' := 35) (L' := [some (.ref 48), some (.int 2), some (.int (nI op)), none]) (st' := []) (h' := kv_wd g2 w) rfl ?_
              refine kx_st 4 (pc' := 43) (L' := [some (.ref 48), some (.int 2), some (.int (nI op)), none]) (st' := [.int (g2 48 3), .ref 52]) (h' := kv_wd g2 w) rfl ?_
              refine kx_ia (k := a2) rfl rfl (by decide) hs2.2.1 (by omega) (by decide) ?_
              refine kx_call (z := 48) (as := [.int (g2 52 a2)]) (rest := []) (v := some (.int (kx_lv (g2 52 a2)))) (h1 := kv_wd g2 w) rfl (kx_ev_le (d := 0 + 1) (by omega) (ev_levelOf (d := 0) _)) ?_
              refine kx_st 0 (pc' := 47) (L' := [some (.ref 48), some (.int 2), some (.int (nI op)), none]) (st' := [.int (kx_lv (g2 52 a2))]) (h' := kv_wd g2 w) rfl ?_
              refine kx_st 1 (pc' := 48) (L' := [some (.ref 48), some (.int 2), some (.int (nI op)), none]) (st' := [.int 2, .int (kx_lv (g2 52 a2))]) (h' := kv_wd g2 w) rfl ?_
              refine kx_bi (t := 103) rfl rfl (fun (h48 : ¬ kx_lv (g2 52 a2) = 2) => ?_) (fun (h48 : ¬ (¬ kx_lv (g2 52 a2) = 2)) => ?_)
              · exact absurd (by rw [hs2.2.2.2.1 a2 hlt]; exact hlv) h48
              · refine kx_st 0 (pc' := 51) (L' := [some (.ref 48), some (.int 2), some (.int (nI op)), none]) (st' := []) (h' := kv_wd g2 w) rfl ?_
                refine kx_st 4 (pc' := 59) (L' := [some (.ref 48), some (.int 2), some (.int (nI op)), none]) (st' := [.int (g2 48 3), .ref 52]) (h' := kv_wd g2 w) rfl ?_
                refine kx_ia (k := a2) rfl rfl (by decide) hs2.2.1 (by omega) (by decide) ?_
                refine kx_st 6 (pc' := 68) (L' := [some (.ref 48), some (.int 2), some (.int (nI op)), some (.int (g2 52 a2))]) (st' := [.int ((g2 48 3) + 1), .ref 48]) (h' := kv_wd g2 w) rfl ?_
                refine kx_pf (i := 28) (k := 3) (x := ((g2 48 3) + 1)) rfl rfl (by decide) rfl (Nat.le_of_ble_eq_true rfl) rfl rfl rfl ?_
                refine kx_st 5 (pc' := 76) (L' := [some (.ref 48), some (.int 2), some (.int (nI op)), some (.int (g2 52 a2))]) (st' := [.int (nI op), .int 3, .ref 48]) (h' := kv_wd (kv_up g2 48 3 ((g2 48 3) + 1)) w) rfl ?_
                have r1 := kx_CR_up hs2 (g2 48 3 + 1) (by rw [hs2.2.1, nI_succ])
                obtain ⟨g3, e3, r3⟩ := hpx2 E d _ w (ln + cd1.length) hE (kx_CS_u hs2 r1) (by omega)
                refine kx_call (z := 47) (as := [.ref 48, .int 3, .int (nI op)]) (rest := []) (v := some (.int 1)) (h1 := kv_wd g3 w) rfl e3 ?_
                refine kx_st 0 (pc' := 79) (L' := [some (.ref 48), some (.int 2), some (.int (nI op)), some (.int (g2 52 a2))]) (st' := [.int 1]) (h' := kv_wd g3 w) rfl ?_
                refine kx_st 1 (pc' := 84) (L' := [some (.ref 48), some (.int 2), some (.int (nI op)), some (.int (g2 52 a2))]) (st' := []) (h' := kv_wd g3 w) rfl ?_
                refine kx_st 4 (pc' := 90) (L' := [some (.ref 48), some (.int 2), some (.int (nI op)), some (.int (g2 52 a2))]) (st' := [.int (-(g2 52 a2)), .ref 49]) (h' := kv_wd g3 w) rfl ?_
                have hs3 := kx_CS_of (kx_CS_u hs2 r1) r3
                refine kx_call (z := 38) (as := [.ref 49, .int (-(g2 52 a2))]) (rest := []) (v := none) (h1 := kv_wd (kv_up (kv_up g3 50 (ln + cd1.length + cd2.length) (-(g2 52 a2))) 49 2 (nI (ln + cd1.length + cd2.length + 1))) w) rfl (kx_ev_le (d := 0 + 1) (by omega) (ev_add (d := 0) (ln + cd1.length + cd2.length) hs3.2.2.2.2 (by have := (hb2.2 rfl).2.1; omega) (-(g2 52 a2)))) ?_
                refine kx_st 0 (pc' := 93) (L' := [some (.ref 48), some (.int 2), some (.int (nI op)), some (.int (g2 52 a2))]) (st' := []) (h' := kv_wd (kv_up (kv_up g3 50 (ln + cd1.length + cd2.length) (-(g2 52 a2))) 49 2 (nI (ln + cd1.length + cd2.length + 1))) w) rfl ?_
                refine kx_st 2 (pc' := 95) (L' := [some (.ref 48), some (.int 2), some (.int (nI op)), some (.int (g2 52 a2))]) (st' := [.int 2, .int 2]) (h' := kv_wd (kv_up (kv_up g3 50 (ln + cd1.length + cd2.length) (-(g2 52 a2))) 49 2 (nI (ln + cd1.length + cd2.length + 1))) w) rfl ?_
                refine kx_st 1 (pc' := 98) (L' := [some (.ref 48), some (.int 2), some (.int (nI op)), some (.int (g2 52 a2))]) (st' := []) (h' := kv_wd (kv_up (kv_up g3 50 (ln + cd1.length + cd2.length) (-(g2 52 a2))) 49 2 (nI (ln + cd1.length + cd2.length + 1))) w) rfl ?_
                refine kx_st 1 (pc' := 99) (L' := [some (.ref 48), some (.int 2), some (.int (nI op)), some (.int (g2 52 a2))]) (st' := [.int 1]) (h' := kv_wd (kv_up (kv_up g3 50 (ln + cd1.length + cd2.length) (-(g2 52 a2))) 49 2 (nI (ln + cd1.length + cd2.length + 1))) w) rfl ?_
                refine kx_ret (v := some (.int 1)) rfl ?_
                refine ⟨rfl, _, rfl, ?_⟩
                rw [← hs2.2.2.2.1 a2 hlt]
                exact kx_CR_t r2 (kx_CR_u r1 (kx_CR_t r3 (kx_CR_add hs3 _))))
          exact ⟨g', kx_ev_le (by omega) he, hh⟩
        | false =>
          obtain ⟨v0, hf, he, rfl, g', rfl, hh⟩ := kx_evP (E := E) (d := d + (8 * (5 - op) + 6)) (y := 47) (h := kv_wd g w) (as := [.ref 48, .int 2, .int (nI op)]) (P := fun v0 h => v0 = (some (.int 0) : Option Value) ∧ ∃ g' : kv_S, h = kv_wd g' w ∧ kx_CR g g' a3 false ln (cd1 ++ (cd2 ++ [-(tx a2)]))) (by decide) (Nat.le_of_ble_eq_true rfl) (by
            refine kx_st 0 (pc' := 0) (L' := [some (.ref 48), some (.int 2), some (.int (nI op)), none]) (st' := []) (h' := kv_wd g w) rfl ?_
            refine kx_st 2 (pc' := 2) (L' := [some (.ref 48), some (.int 2), some (.int (nI op)), none]) (st' := [.int 5, .int 2]) (h' := kv_wd g w) rfl ?_
            refine kx_st 1 (pc' := 11) (L' := [some (.ref 48), some (.int 2), some (.int (nI op)), none]) (st' := []) (h' := kv_wd g w) rfl ?_
            refine kx_st 5 (pc' := 16) (L' := [some (.ref 48), some (.int 2), some (.int (nI op)), none]) (st' := [.int (nI op), .int 3, .ref 48]) (h' := kv_wd g w) rfl ?_
            obtain ⟨g2, e2, r2⟩ := hpx E d g w ln hE hs hln
            have hs2 := kx_CS_of hs r2
            refine kx_call (z := 47) (as := [.ref 48, .int 3, .int (nI op)]) (rest := []) (v := some (.int 1)) (h1 := kv_wd g2 w) rfl e2 ?_
            refine kx_st 0 (pc' := 19) (L' := [some (.ref 48), some (.int 2), some (.int (nI op)), none]) (st' := [.int 1]) (h' := kv_wd g2 w) rfl ?_
            refine kx_st 1 (pc' := 24) (L' := [some (.ref 48), some (.int 2), some (.int (nI op)), none]) (st' := []) (h' := kv_wd g2 w) rfl ?_
            refine kx_st 4 (pc' := 32) (L' := [some (.ref 48), some (.int 2), some (.int (nI op)), none]) (st' := [.int (g2 48 2), .int (g2 48 3)]) (h' := kv_wd g2 w) rfl ?_
            refine kx_bi (t := 103) rfl rfl (fun (h32 : g2 48 2 ≤ g2 48 3) => ?_) (fun (h32 : ¬ (g2 48 2 ≤ g2 48 3)) => ?_)
            · exact absurd h32 (by rw [hs2.2.1, hs2.1]; exact nI_ge (a := a2) (b := n) hlt (by omega))
            · refine kx_st 0 (pc' := 35) (L' := [some (.ref 48), some (.int 2), some (.int (nI op)), none]) (st' := []) (h' := kv_wd g2 w) rfl ?_
              refine kx_st 4 (pc' := 43) (L' := [some (.ref 48), some (.int 2), some (.int (nI op)), none]) (st' := [.int (g2 48 3), .ref 52]) (h' := kv_wd g2 w) rfl ?_
              refine kx_ia (k := a2) rfl rfl (by decide) hs2.2.1 (by omega) (by decide) ?_
              refine kx_call (z := 48) (as := [.int (g2 52 a2)]) (rest := []) (v := some (.int (kx_lv (g2 52 a2)))) (h1 := kv_wd g2 w) rfl (kx_ev_le (d := 0 + 1) (by omega) (ev_levelOf (d := 0) _)) ?_
              refine kx_st 0 (pc' := 47) (L' := [some (.ref 48), some (.int 2), some (.int (nI op)), none]) (st' := [.int (kx_lv (g2 52 a2))]) (h' := kv_wd g2 w) rfl ?_
              refine kx_st 1 (pc' := 48) (L' := [some (.ref 48), some (.int 2), some (.int (nI op)), none]) (st' := [.int 2, .int (kx_lv (g2 52 a2))]) (h' := kv_wd g2 w) rfl ?_
              refine kx_bi (t := 103) rfl rfl (fun (h48 : ¬ kx_lv (g2 52 a2) = 2) => ?_) (fun (h48 : ¬ (¬ kx_lv (g2 52 a2) = 2)) => ?_)
              · exact absurd (by rw [hs2.2.2.2.1 a2 hlt]; exact hlv) h48
              · refine kx_st 0 (pc' := 51) (L' := [some (.ref 48), some (.int 2), some (.int (nI op)), none]) (st' := []) (h' := kv_wd g2 w) rfl ?_
                refine kx_st 4 (pc' := 59) (L' := [some (.ref 48), some (.int 2), some (.int (nI op)), none]) (st' := [.int (g2 48 3), .ref 52]) (h' := kv_wd g2 w) rfl ?_
                refine kx_ia (k := a2) rfl rfl (by decide) hs2.2.1 (by omega) (by decide) ?_
                refine kx_st 6 (pc' := 68) (L' := [some (.ref 48), some (.int 2), some (.int (nI op)), some (.int (g2 52 a2))]) (st' := [.int ((g2 48 3) + 1), .ref 48]) (h' := kv_wd g2 w) rfl ?_
                refine kx_pf (i := 28) (k := 3) (x := ((g2 48 3) + 1)) rfl rfl (by decide) rfl (Nat.le_of_ble_eq_true rfl) rfl rfl rfl ?_
                refine kx_st 5 (pc' := 76) (L' := [some (.ref 48), some (.int 2), some (.int (nI op)), some (.int (g2 52 a2))]) (st' := [.int (nI op), .int 3, .ref 48]) (h' := kv_wd (kv_up g2 48 3 ((g2 48 3) + 1)) w) rfl ?_
                have r1 := kx_CR_up hs2 (g2 48 3 + 1) (by rw [hs2.2.1, nI_succ])
                obtain ⟨g3, e3, r3⟩ := hpx2 E d _ w (ln + cd1.length) hE (kx_CS_u hs2 r1) (by omega)
                refine kx_call (z := 47) (as := [.ref 48, .int 3, .int (nI op)]) (rest := []) (v := some (.int 0)) (h1 := kv_wd g3 w) rfl e3 ?_
                refine kx_st 0 (pc' := 79) (L' := [some (.ref 48), some (.int 2), some (.int (nI op)), some (.int (g2 52 a2))]) (st' := [.int 0]) (h' := kv_wd g3 w) rfl ?_
                refine kx_st 1 (pc' := 82) (L' := [some (.ref 48), some (.int 2), some (.int (nI op)), some (.int (g2 52 a2))]) (st' := []) (h' := kv_wd g3 w) rfl ?_
                refine kx_st 1 (pc' := 83) (L' := [some (.ref 48), some (.int 2), some (.int (nI op)), some (.int (g2 52 a2))]) (st' := [.int 0]) (h' := kv_wd g3 w) rfl ?_
                refine kx_ret (v := some (.int 0)) rfl ?_
                exact ⟨rfl, _, rfl, kx_CR_f r2 (kx_CR_f r1 r3 (c3 := []))⟩)
          exact ⟨g', kx_ev_le (by omega) he, hh⟩
      · intro A B C
        obtain ⟨v, hv1, hv2⟩ := hpm A B C
        obtain ⟨wv, hw1, hw2⟩ := hpm2 A B C
        rcases kx_lv_2.mp hlv with hkey | hkey | hkey
        · have hbt : kx_bt tx n a2 = 60 := by rw [show kx_bt tx n a2 = tx a2 from if_pos hlt]; exact hkey
          refine ⟨kx_jn 60 v wv, fun z st => ?_, ?_⟩
          · rw [kx_ex_app, hv1 rfl st, kx_ex_app, hw1 z (v :: st), kx_ex1 hxx.1 hxx.2, hkey]
          · intro E d g w hs
            obtain ⟨v0, hf, he, rfl, g', rfl, hh⟩ := kx_evP (E := E) (d := d + (6 * (5 - op) + 6)) (y := 163) (h := kv_wd g w) (as := [.ref 65]) (P := fun v0 h => v0 = (some (.int (kx_jn 60 v wv)) : Option Value) ∧ ∃ g' : kv_S, h = kv_wd g' w ∧ kx_RG g g' a3 op ok2) (by decide) (Nat.le_of_ble_eq_true rfl) (by
              refine kx_st 0 (pc' := 0) (L' := [some (.ref 65), none, none, none, none]) (st' := []) (h' := kv_wd g w) rfl ?_
              refine kx_st 1 (pc' := 1) (L' := [some (.ref 65), none, none, none, none]) (st' := [.ref 65]) (h' := kv_wd g w) rfl ?_
              obtain ⟨g2, e2, r2⟩ := hv2 E d g w hs
              have hs2 := kx_RS_of hs r2
              refine kx_call (z := 162) (as := [.ref 65]) (rest := []) (v := some (.int v)) (h1 := kv_wd g2 w) rfl e2 ?_
              refine kx_st 0 (pc' := 4) (L' := [some (.ref 65), none, none, none, none]) (st' := [.int v]) (h' := kv_wd g2 w) rfl ?_
              refine kx_st 3 (pc' := 9) (L' := [some (.ref 65), some (.int v), none, none, none]) (st' := [.int (g2 65 14)]) (h' := kv_wd g2 w) rfl ?_
              refine kx_bc (t := 23) rfl rfl (fun (h9 : g2 65 14 = 0) => ?_) (fun (h9 : ¬ (g2 65 14 = 0)) => ?_)
              · exact absurd h9 (by rw [hs2.2.2.1]; decide)
              · refine kx_st 0 (pc' := 12) (L' := [some (.ref 65), some (.int v), none, none, none]) (st' := []) (h' := kv_wd g2 w) rfl ?_
                refine kx_st 3 (pc' := 17) (L' := [some (.ref 65), some (.int v), none, none, none]) (st' := [.int (g2 65 8), .ref 65]) (h' := kv_wd g2 w) rfl ?_
                refine kx_call (z := 155) (as := [.ref 65, .int (g2 65 8)]) (rest := []) (v := some (.int 60)) (h1 := kv_wd g2 w) rfl (by rw [show g2 65 8 = nI a2 from hs2.1.2.1]; have z := ev_byteAt (E := E) (d := 0) (w := w) hs2 n50 u1 a2 (by omega); rw [hbt] at z; exact kx_ev_le (by omega) z) ?_
                refine kx_st 0 (pc' := 20) (L' := [some (.ref 65), some (.int v), none, none, none]) (st' := [.int 60]) (h' := kv_wd g2 w) rfl ?_
                refine kx_st 4 (pc' := 28) (L' := [some (.ref 65), some (.int v), some (.int 60), none, none]) (st' := [.int 60, .int 60]) (h' := kv_wd g2 w) rfl ?_
                refine kx_st 1 (pc' := 45) (L' := [some (.ref 65), some (.int v), some (.int 60), none, none]) (st' := []) (h' := kv_wd g2 w) rfl ?_
                refine kx_st 5 (pc' := 52) (L' := [some (.ref 65), some (.int v), some (.int 60), none, none]) (st' := [.int ((g2 65 8) + 1), .ref 65]) (h' := kv_wd g2 w) rfl ?_
                refine kx_pf (i := 113) (k := 8) (x := ((g2 65 8) + 1)) rfl rfl (by decide) rfl (Nat.le_of_ble_eq_true rfl) rfl rfl rfl ?_
                refine kx_st 1 (pc' := 56) (L' := [some (.ref 65), some (.int v), some (.int 60), none, none]) (st' := [.ref 65]) (h' := kv_wd (kv_up g2 65 8 ((g2 65 8) + 1)) w) rfl ?_
                have r1 := kx_RG_up hs2 (g2 65 8 + 1) (by rw [hs2.1.2.1, nI_succ])
                obtain ⟨g3, e3, r3⟩ := hw2 E d _ w (kx_RS_of hs2 r1)
                refine kx_call (z := 162) (as := [.ref 65]) (rest := []) (v := some (.int wv)) (h1 := kv_wd g3 w) rfl e3 ?_
                refine kx_st 0 (pc' := 59) (L' := [some (.ref 65), some (.int v), some (.int 60), none, none]) (st' := [.int wv]) (h' := kv_wd g3 w) rfl ?_
                refine kx_st 3 (pc' := 63) (L' := [some (.ref 65), some (.int v), some (.int 60), some (.int wv), none]) (st' := [.int 60, .int 60]) (h' := kv_wd g3 w) rfl ?_
                refine kx_st 1 (pc' := 66) (L' := [some (.ref 65), some (.int v), some (.int 60), some (.int wv), none]) (st' := []) (h' := kv_wd g3 w) rfl ?_
                refine kx_st 2 (pc' := 68) (L' := [some (.ref 65), some (.int v), some (.int 60), some (.int wv), none]) (st' := [.int wv, .int v]) (h' := kv_wd g3 w) rfl ?_
                refine kx_bi (t := 75) rfl rfl (fun (h68 : wv ≤ v) => ?_) (fun (h68 : ¬ (wv ≤ v)) => ?_)
                · refine kx_st 4 (pc' := 112) (L' := [some (.ref 65), some (.int v), some (.int 60), some (.int wv), some (.int 0)]) (st' := [.int 0]) (h' := kv_wd g3 w) rfl ?_
                  refine kx_st 1 (pc' := 119) (L' := [some (.ref 65), some (.int v), some (.int 60), some (.int wv), some (.int 0)]) (st' := []) (h' := kv_wd g3 w) rfl ?_
                  refine kx_st 1 (pc' := 120) (L' := [some (.ref 65), some (.int v), some (.int 60), some (.int wv), some (.int 0)]) (st' := [.int 0]) (h' := kv_wd g3 w) rfl ?_
                  refine kx_ret (v := some (.int 0)) rfl ?_
                  exact ⟨congrArg (fun z => some (Value.int z)) (show (0 : Int32) = kx_jn 60 v wv from (show (0 : Int32) = if v < wv then (1 : Int32) else 0 from (if_neg (Int32.not_lt.mpr h68)).symm)), _, rfl, kx_RG_t r2 (kx_RG_t r1 r3)⟩
                · refine kx_st 0 (pc' := 71) (L' := [some (.ref 65), some (.int v), some (.int 60), some (.int wv), none]) (st' := []) (h' := kv_wd g3 w) rfl ?_
                  refine kx_st 4 (pc' := 112) (L' := [some (.ref 65), some (.int v), some (.int 60), some (.int wv), some (.int 1)]) (st' := [.int 1]) (h' := kv_wd g3 w) rfl ?_
                  refine kx_st 1 (pc' := 115) (L' := [some (.ref 65), some (.int v), some (.int 60), some (.int wv), some (.int 1)]) (st' := []) (h' := kv_wd g3 w) rfl ?_
                  refine kx_st 2 (pc' := 120) (L' := [some (.ref 65), some (.int v), some (.int 60), some (.int wv), some (.int 1)]) (st' := [.int 1]) (h' := kv_wd g3 w) rfl ?_
                  refine kx_ret (v := some (.int 1)) rfl ?_
                  exact ⟨congrArg (fun z => some (Value.int z)) (show (1 : Int32) = kx_jn 60 v wv from (show (1 : Int32) = if v < wv then (1 : Int32) else 0 from (if_pos (Int32.not_le.mp h68)).symm)), _, rfl, kx_RG_t r2 (kx_RG_t r1 r3)⟩)
            exact ⟨g', kx_ev_le (by omega) he, hh⟩
        · have hbt : kx_bt tx n a2 = 61 := by rw [show kx_bt tx n a2 = tx a2 from if_pos hlt]; exact hkey
          refine ⟨kx_jn 61 v wv, fun z st => ?_, ?_⟩
          · rw [kx_ex_app, hv1 rfl st, kx_ex_app, hw1 z (v :: st), kx_ex1 hxx.1 hxx.2, hkey]
          · intro E d g w hs
            obtain ⟨v0, hf, he, rfl, g', rfl, hh⟩ := kx_evP (E := E) (d := d + (6 * (5 - op) + 6)) (y := 163) (h := kv_wd g w) (as := [.ref 65]) (P := fun v0 h => v0 = (some (.int (kx_jn 61 v wv)) : Option Value) ∧ ∃ g' : kv_S, h = kv_wd g' w ∧ kx_RG g g' a3 op ok2) (by decide) (Nat.le_of_ble_eq_true rfl) (by
              refine kx_st 0 (pc' := 0) (L' := [some (.ref 65), none, none, none, none]) (st' := []) (h' := kv_wd g w) rfl ?_
              refine kx_st 1 (pc' := 1) (L' := [some (.ref 65), none, none, none, none]) (st' := [.ref 65]) (h' := kv_wd g w) rfl ?_
              obtain ⟨g2, e2, r2⟩ := hv2 E d g w hs
              have hs2 := kx_RS_of hs r2
              refine kx_call (z := 162) (as := [.ref 65]) (rest := []) (v := some (.int v)) (h1 := kv_wd g2 w) rfl e2 ?_
              refine kx_st 0 (pc' := 4) (L' := [some (.ref 65), none, none, none, none]) (st' := [.int v]) (h' := kv_wd g2 w) rfl ?_
              refine kx_st 3 (pc' := 9) (L' := [some (.ref 65), some (.int v), none, none, none]) (st' := [.int (g2 65 14)]) (h' := kv_wd g2 w) rfl ?_
              refine kx_bc (t := 23) rfl rfl (fun (h9 : g2 65 14 = 0) => ?_) (fun (h9 : ¬ (g2 65 14 = 0)) => ?_)
              · exact absurd h9 (by rw [hs2.2.2.1]; decide)
              · refine kx_st 0 (pc' := 12) (L' := [some (.ref 65), some (.int v), none, none, none]) (st' := []) (h' := kv_wd g2 w) rfl ?_
                refine kx_st 3 (pc' := 17) (L' := [some (.ref 65), some (.int v), none, none, none]) (st' := [.int (g2 65 8), .ref 65]) (h' := kv_wd g2 w) rfl ?_
                refine kx_call (z := 155) (as := [.ref 65, .int (g2 65 8)]) (rest := []) (v := some (.int 61)) (h1 := kv_wd g2 w) rfl (by rw [show g2 65 8 = nI a2 from hs2.1.2.1]; have z := ev_byteAt (E := E) (d := 0) (w := w) hs2 n50 u1 a2 (by omega); rw [hbt] at z; exact kx_ev_le (by omega) z) ?_
                refine kx_st 0 (pc' := 20) (L' := [some (.ref 65), some (.int v), none, none, none]) (st' := [.int 61]) (h' := kv_wd g2 w) rfl ?_
                refine kx_st 4 (pc' := 28) (L' := [some (.ref 65), some (.int v), some (.int 61), none, none]) (st' := [.int 60, .int 61]) (h' := kv_wd g2 w) rfl ?_
                refine kx_st 1 (pc' := 31) (L' := [some (.ref 65), some (.int v), some (.int 61), none, none]) (st' := []) (h' := kv_wd g2 w) rfl ?_
                refine kx_st 2 (pc' := 34) (L' := [some (.ref 65), some (.int v), some (.int 61), none, none]) (st' := [.int 61, .int 61]) (h' := kv_wd g2 w) rfl ?_
                refine kx_st 1 (pc' := 45) (L' := [some (.ref 65), some (.int v), some (.int 61), none, none]) (st' := []) (h' := kv_wd g2 w) rfl ?_
                refine kx_st 5 (pc' := 52) (L' := [some (.ref 65), some (.int v), some (.int 61), none, none]) (st' := [.int ((g2 65 8) + 1), .ref 65]) (h' := kv_wd g2 w) rfl ?_
                refine kx_pf (i := 113) (k := 8) (x := ((g2 65 8) + 1)) rfl rfl (by decide) rfl (Nat.le_of_ble_eq_true rfl) rfl rfl rfl ?_
                refine kx_st 1 (pc' := 56) (L' := [some (.ref 65), some (.int v), some (.int 61), none, none]) (st' := [.ref 65]) (h' := kv_wd (kv_up g2 65 8 ((g2 65 8) + 1)) w) rfl ?_
                have r1 := kx_RG_up hs2 (g2 65 8 + 1) (by rw [hs2.1.2.1, nI_succ])
                obtain ⟨g3, e3, r3⟩ := hw2 E d _ w (kx_RS_of hs2 r1)
                refine kx_call (z := 162) (as := [.ref 65]) (rest := []) (v := some (.int wv)) (h1 := kv_wd g3 w) rfl e3 ?_
                refine kx_st 0 (pc' := 59) (L' := [some (.ref 65), some (.int v), some (.int 61), none, none]) (st' := [.int wv]) (h' := kv_wd g3 w) rfl ?_
                refine kx_st 3 (pc' := 63) (L' := [some (.ref 65), some (.int v), some (.int 61), some (.int wv), none]) (st' := [.int 60, .int 61]) (h' := kv_wd g3 w) rfl ?_
                refine kx_st 1 (pc' := 79) (L' := [some (.ref 65), some (.int v), some (.int 61), some (.int wv), none]) (st' := []) (h' := kv_wd g3 w) rfl ?_
                refine kx_st 2 (pc' := 82) (L' := [some (.ref 65), some (.int v), some (.int 61), some (.int wv), none]) (st' := [.int 61, .int 61]) (h' := kv_wd g3 w) rfl ?_
                refine kx_st 1 (pc' := 85) (L' := [some (.ref 65), some (.int v), some (.int 61), some (.int wv), none]) (st' := []) (h' := kv_wd g3 w) rfl ?_
                refine kx_st 2 (pc' := 87) (L' := [some (.ref 65), some (.int v), some (.int 61), some (.int wv), none]) (st' := [.int wv, .int v]) (h' := kv_wd g3 w) rfl ?_
                refine kx_bi (t := 94) rfl rfl (fun (h87 : ¬ v = wv) => ?_) (fun (h87 : ¬ (¬ v = wv)) => ?_)
                · refine kx_st 4 (pc' := 112) (L' := [some (.ref 65), some (.int v), some (.int 61), some (.int wv), some (.int 0)]) (st' := [.int 0]) (h' := kv_wd g3 w) rfl ?_
                  refine kx_st 1 (pc' := 119) (L' := [some (.ref 65), some (.int v), some (.int 61), some (.int wv), some (.int 0)]) (st' := []) (h' := kv_wd g3 w) rfl ?_
                  refine kx_st 1 (pc' := 120) (L' := [some (.ref 65), some (.int v), some (.int 61), some (.int wv), some (.int 0)]) (st' := [.int 0]) (h' := kv_wd g3 w) rfl ?_
                  refine kx_ret (v := some (.int 0)) rfl ?_
                  exact ⟨congrArg (fun z => some (Value.int z)) (show (0 : Int32) = kx_jn 61 v wv from (show (0 : Int32) = if v = wv then (1 : Int32) else 0 from (if_neg h87).symm)), _, rfl, kx_RG_t r2 (kx_RG_t r1 r3)⟩
                · refine kx_st 0 (pc' := 90) (L' := [some (.ref 65), some (.int v), some (.int 61), some (.int wv), none]) (st' := []) (h' := kv_wd g3 w) rfl ?_
                  refine kx_st 4 (pc' := 112) (L' := [some (.ref 65), some (.int v), some (.int 61), some (.int wv), some (.int 1)]) (st' := [.int 1]) (h' := kv_wd g3 w) rfl ?_
                  refine kx_st 1 (pc' := 115) (L' := [some (.ref 65), some (.int v), some (.int 61), some (.int wv), some (.int 1)]) (st' := []) (h' := kv_wd g3 w) rfl ?_
                  refine kx_st 2 (pc' := 120) (L' := [some (.ref 65), some (.int v), some (.int 61), some (.int wv), some (.int 1)]) (st' := [.int 1]) (h' := kv_wd g3 w) rfl ?_
                  refine kx_ret (v := some (.int 1)) rfl ?_
                  exact ⟨congrArg (fun z => some (Value.int z)) (show (1 : Int32) = kx_jn 61 v wv from (show (1 : Int32) = if v = wv then (1 : Int32) else 0 from (if_pos (Classical.not_not.mp h87)).symm)), _, rfl, kx_RG_t r2 (kx_RG_t r1 r3)⟩)
            exact ⟨g', kx_ev_le (by omega) he, hh⟩
        · have hbt : kx_bt tx n a2 = 62 := by rw [show kx_bt tx n a2 = tx a2 from if_pos hlt]; exact hkey
          refine ⟨kx_jn 62 v wv, fun z st => ?_, ?_⟩
          · rw [kx_ex_app, hv1 rfl st, kx_ex_app, hw1 z (v :: st), kx_ex1 hxx.1 hxx.2, hkey]
          · intro E d g w hs
            obtain ⟨v0, hf, he, rfl, g', rfl, hh⟩ := kx_evP (E := E) (d := d + (6 * (5 - op) + 6)) (y := 163) (h := kv_wd g w) (as := [.ref 65]) (P := fun v0 h => v0 = (some (.int (kx_jn 62 v wv)) : Option Value) ∧ ∃ g' : kv_S, h = kv_wd g' w ∧ kx_RG g g' a3 op ok2) (by decide) (Nat.le_of_ble_eq_true rfl) (by
              refine kx_st 0 (pc' := 0) (L' := [some (.ref 65), none, none, none, none]) (st' := []) (h' := kv_wd g w) rfl ?_
              refine kx_st 1 (pc' := 1) (L' := [some (.ref 65), none, none, none, none]) (st' := [.ref 65]) (h' := kv_wd g w) rfl ?_
              obtain ⟨g2, e2, r2⟩ := hv2 E d g w hs
              have hs2 := kx_RS_of hs r2
              refine kx_call (z := 162) (as := [.ref 65]) (rest := []) (v := some (.int v)) (h1 := kv_wd g2 w) rfl e2 ?_
              refine kx_st 0 (pc' := 4) (L' := [some (.ref 65), none, none, none, none]) (st' := [.int v]) (h' := kv_wd g2 w) rfl ?_
              refine kx_st 3 (pc' := 9) (L' := [some (.ref 65), some (.int v), none, none, none]) (st' := [.int (g2 65 14)]) (h' := kv_wd g2 w) rfl ?_
              refine kx_bc (t := 23) rfl rfl (fun (h9 : g2 65 14 = 0) => ?_) (fun (h9 : ¬ (g2 65 14 = 0)) => ?_)
              · exact absurd h9 (by rw [hs2.2.2.1]; decide)
              · refine kx_st 0 (pc' := 12) (L' := [some (.ref 65), some (.int v), none, none, none]) (st' := []) (h' := kv_wd g2 w) rfl ?_
                refine kx_st 3 (pc' := 17) (L' := [some (.ref 65), some (.int v), none, none, none]) (st' := [.int (g2 65 8), .ref 65]) (h' := kv_wd g2 w) rfl ?_
                refine kx_call (z := 155) (as := [.ref 65, .int (g2 65 8)]) (rest := []) (v := some (.int 62)) (h1 := kv_wd g2 w) rfl (by rw [show g2 65 8 = nI a2 from hs2.1.2.1]; have z := ev_byteAt (E := E) (d := 0) (w := w) hs2 n50 u1 a2 (by omega); rw [hbt] at z; exact kx_ev_le (by omega) z) ?_
                refine kx_st 0 (pc' := 20) (L' := [some (.ref 65), some (.int v), none, none, none]) (st' := [.int 62]) (h' := kv_wd g2 w) rfl ?_
                refine kx_st 4 (pc' := 28) (L' := [some (.ref 65), some (.int v), some (.int 62), none, none]) (st' := [.int 60, .int 62]) (h' := kv_wd g2 w) rfl ?_
                refine kx_st 1 (pc' := 31) (L' := [some (.ref 65), some (.int v), some (.int 62), none, none]) (st' := []) (h' := kv_wd g2 w) rfl ?_
                refine kx_st 2 (pc' := 34) (L' := [some (.ref 65), some (.int v), some (.int 62), none, none]) (st' := [.int 61, .int 62]) (h' := kv_wd g2 w) rfl ?_
                refine kx_st 1 (pc' := 37) (L' := [some (.ref 65), some (.int v), some (.int 62), none, none]) (st' := []) (h' := kv_wd g2 w) rfl ?_
                refine kx_st 2 (pc' := 40) (L' := [some (.ref 65), some (.int v), some (.int 62), none, none]) (st' := [.int 62, .int 62]) (h' := kv_wd g2 w) rfl ?_
                refine kx_st 1 (pc' := 45) (L' := [some (.ref 65), some (.int v), some (.int 62), none, none]) (st' := []) (h' := kv_wd g2 w) rfl ?_
                refine kx_st 5 (pc' := 52) (L' := [some (.ref 65), some (.int v), some (.int 62), none, none]) (st' := [.int ((g2 65 8) + 1), .ref 65]) (h' := kv_wd g2 w) rfl ?_
                refine kx_pf (i := 113) (k := 8) (x := ((g2 65 8) + 1)) rfl rfl (by decide) rfl (Nat.le_of_ble_eq_true rfl) rfl rfl rfl ?_
                refine kx_st 1 (pc' := 56) (L' := [some (.ref 65), some (.int v), some (.int 62), none, none]) (st' := [.ref 65]) (h' := kv_wd (kv_up g2 65 8 ((g2 65 8) + 1)) w) rfl ?_
                have r1 := kx_RG_up hs2 (g2 65 8 + 1) (by rw [hs2.1.2.1, nI_succ])
                obtain ⟨g3, e3, r3⟩ := hw2 E d _ w (kx_RS_of hs2 r1)
                refine kx_call (z := 162) (as := [.ref 65]) (rest := []) (v := some (.int wv)) (h1 := kv_wd g3 w) rfl e3 ?_
                refine kx_st 0 (pc' := 59) (L' := [some (.ref 65), some (.int v), some (.int 62), none, none]) (st' := [.int wv]) (h' := kv_wd g3 w) rfl ?_
                refine kx_st 3 (pc' := 63) (L' := [some (.ref 65), some (.int v), some (.int 62), some (.int wv), none]) (st' := [.int 60, .int 62]) (h' := kv_wd g3 w) rfl ?_
                refine kx_st 1 (pc' := 79) (L' := [some (.ref 65), some (.int v), some (.int 62), some (.int wv), none]) (st' := []) (h' := kv_wd g3 w) rfl ?_
                refine kx_st 2 (pc' := 82) (L' := [some (.ref 65), some (.int v), some (.int 62), some (.int wv), none]) (st' := [.int 61, .int 62]) (h' := kv_wd g3 w) rfl ?_
                refine kx_st 1 (pc' := 98) (L' := [some (.ref 65), some (.int v), some (.int 62), some (.int wv), none]) (st' := []) (h' := kv_wd g3 w) rfl ?_
                refine kx_st 2 (pc' := 100) (L' := [some (.ref 65), some (.int v), some (.int 62), some (.int wv), none]) (st' := [.int wv, .int v]) (h' := kv_wd g3 w) rfl ?_
                refine kx_bi (t := 107) rfl rfl (fun (h100 : v ≤ wv) => ?_) (fun (h100 : ¬ (v ≤ wv)) => ?_)
                · refine kx_st 3 (pc' := 112) (L' := [some (.ref 65), some (.int v), some (.int 62), some (.int wv), some (.int 0)]) (st' := [.int 0]) (h' := kv_wd g3 w) rfl ?_
                  refine kx_st 1 (pc' := 119) (L' := [some (.ref 65), some (.int v), some (.int 62), some (.int wv), some (.int 0)]) (st' := []) (h' := kv_wd g3 w) rfl ?_
                  refine kx_st 1 (pc' := 120) (L' := [some (.ref 65), some (.int v), some (.int 62), some (.int wv), some (.int 0)]) (st' := [.int 0]) (h' := kv_wd g3 w) rfl ?_
                  refine kx_ret (v := some (.int 0)) rfl ?_
                  exact ⟨congrArg (fun z => some (Value.int z)) (show (0 : Int32) = kx_jn 62 v wv from (show (0 : Int32) = if wv < v then (1 : Int32) else 0 from (if_neg (Int32.not_lt.mpr h100)).symm)), _, rfl, kx_RG_t r2 (kx_RG_t r1 r3)⟩
                · refine kx_st 0 (pc' := 103) (L' := [some (.ref 65), some (.int v), some (.int 62), some (.int wv), none]) (st' := []) (h' := kv_wd g3 w) rfl ?_
                  refine kx_st 4 (pc' := 112) (L' := [some (.ref 65), some (.int v), some (.int 62), some (.int wv), some (.int 1)]) (st' := [.int 1]) (h' := kv_wd g3 w) rfl ?_
                  refine kx_st 1 (pc' := 115) (L' := [some (.ref 65), some (.int v), some (.int 62), some (.int wv), some (.int 1)]) (st' := []) (h' := kv_wd g3 w) rfl ?_
                  refine kx_st 2 (pc' := 120) (L' := [some (.ref 65), some (.int v), some (.int 62), some (.int wv), some (.int 1)]) (st' := [.int 1]) (h' := kv_wd g3 w) rfl ?_
                  refine kx_ret (v := some (.int 1)) rfl ?_
                  exact ⟨congrArg (fun z => some (Value.int z)) (show (1 : Int32) = kx_jn 62 v wv from (show (1 : Int32) = if wv < v then (1 : Int32) else 0 from (if_pos (Int32.not_le.mp h100)).symm)), _, rfl, kx_RG_t r2 (kx_RG_t r1 r3)⟩)
            exact ⟨g', kx_ev_le (by omega) he, hh⟩
    · refine ⟨true, a2, cd1, hb1, ?_, ?_⟩
      · intro E d g w ln hE hs hln
        obtain ⟨v0, hf, he, rfl, g', rfl, hh⟩ := kx_evP (E := E) (d := d + (8 * (5 - op) + 6)) (y := 47) (h := kv_wd g w) (as := [.ref 48, .int 2, .int (nI op)]) (P := fun v0 h => v0 = (some (.int 1) : Option Value) ∧ ∃ g' : kv_S, h = kv_wd g' w ∧ kx_CR g g' a2 true ln cd1) (by decide) (Nat.le_of_ble_eq_true rfl) (by
          refine kx_st 0 (pc' := 0) (L' := [some (.ref 48), some (.int 2), some (.int (nI op)), none]) (st' := []) (h' := kv_wd g w) rfl ?_
          refine kx_st 2 (pc' := 2) (L' := [some (.ref 48), some (.int 2), some (.int (nI op)), none]) (st' := [.int 5, .int 2]) (h' := kv_wd g w) rfl ?_
          refine kx_st 1 (pc' := 11) (L' := [some (.ref 48), some (.int 2), some (.int (nI op)), none]) (st' := []) (h' := kv_wd g w) rfl ?_
          refine kx_st 5 (pc' := 16) (L' := [some (.ref 48), some (.int 2), some (.int (nI op)), none]) (st' := [.int (nI op), .int 3, .ref 48]) (h' := kv_wd g w) rfl ?_
          obtain ⟨g2, e2, r2⟩ := hpx E d g w ln hE hs hln
          have hs2 := kx_CS_of hs r2
          refine kx_call (z := 47) (as := [.ref 48, .int 3, .int (nI op)]) (rest := []) (v := some (.int 1)) (h1 := kv_wd g2 w) rfl e2 ?_
          refine kx_st 0 (pc' := 19) (L' := [some (.ref 48), some (.int 2), some (.int (nI op)), none]) (st' := [.int 1]) (h' := kv_wd g2 w) rfl ?_
          refine kx_st 1 (pc' := 24) (L' := [some (.ref 48), some (.int 2), some (.int (nI op)), none]) (st' := []) (h' := kv_wd g2 w) rfl ?_
          refine kx_st 4 (pc' := 32) (L' := [some (.ref 48), some (.int 2), some (.int (nI op)), none]) (st' := [.int (g2 48 2), .int (g2 48 3)]) (h' := kv_wd g2 w) rfl ?_
          refine kx_bi (t := 103) rfl rfl (fun (h32 : g2 48 2 ≤ g2 48 3) => ?_) (fun (h32 : ¬ (g2 48 2 ≤ g2 48 3)) => ?_)
          · refine kx_st 1 (pc' := 104) (L' := [some (.ref 48), some (.int 2), some (.int (nI op)), none]) (st' := [.int 1]) (h' := kv_wd g2 w) rfl ?_
            refine kx_ret (v := some (.int 1)) rfl ?_
            exact ⟨rfl, _, rfl, r2⟩
          · refine kx_st 0 (pc' := 35) (L' := [some (.ref 48), some (.int 2), some (.int (nI op)), none]) (st' := []) (h' := kv_wd g2 w) rfl ?_
            refine kx_st 4 (pc' := 43) (L' := [some (.ref 48), some (.int 2), some (.int (nI op)), none]) (st' := [.int (g2 48 3), .ref 52]) (h' := kv_wd g2 w) rfl ?_
            refine kx_ia (k := a2) rfl rfl (by decide) hs2.2.1 (by have : a2 < n := (fun z => Classical.not_not.mp (fun y => z (by rw [hs2.2.1, hs2.1]; exact nI_le (by omega) (by omega)))) h32; omega) (by decide) ?_
            refine kx_call (z := 48) (as := [.int (g2 52 a2)]) (rest := []) (v := some (.int (kx_lv (g2 52 a2)))) (h1 := kv_wd g2 w) rfl (kx_ev_le (d := 0 + 1) (by omega) (ev_levelOf (d := 0) _)) ?_
            refine kx_st 0 (pc' := 47) (L' := [some (.ref 48), some (.int 2), some (.int (nI op)), none]) (st' := [.int (kx_lv (g2 52 a2))]) (h' := kv_wd g2 w) rfl ?_
            refine kx_st 1 (pc' := 48) (L' := [some (.ref 48), some (.int 2), some (.int (nI op)), none]) (st' := [.int 2, .int (kx_lv (g2 52 a2))]) (h' := kv_wd g2 w) rfl ?_
            refine kx_bi (t := 103) rfl rfl (fun (h48 : ¬ kx_lv (g2 52 a2) = 2) => ?_) (fun (h48 : ¬ (¬ kx_lv (g2 52 a2) = 2)) => ?_)
            · refine kx_st 1 (pc' := 104) (L' := [some (.ref 48), some (.int 2), some (.int (nI op)), none]) (st' := [.int 1]) (h' := kv_wd g2 w) rfl ?_
              refine kx_ret (v := some (.int 1)) rfl ?_
              exact ⟨rfl, _, rfl, r2⟩
            · exact absurd ⟨(fun z => Classical.not_not.mp (fun y => z (by rw [hs2.2.1, hs2.1]; exact nI_le (by omega) (by omega)))) h32, by rw [← hs2.2.2.2.1 a2 ((fun z => Classical.not_not.mp (fun y => z (by rw [hs2.2.1, hs2.1]; exact nI_le (by omega) (by omega)))) h32)]; exact Classical.not_not.mp h48⟩ hk)
        exact ⟨g', kx_ev_le (by omega) he, hh⟩
      · intro A B C
        obtain ⟨v, hv1, hv2⟩ := hpm A B C
        refine ⟨v, hv1, ?_⟩
        intro E d g w hs
        obtain ⟨v0, hf, he, rfl, g', rfl, hh⟩ := kx_evP (E := E) (d := d + (6 * (5 - op) + 6)) (y := 163) (h := kv_wd g w) (as := [.ref 65]) (P := fun v0 h => v0 = (some (.int v) : Option Value) ∧ ∃ g' : kv_S, h = kv_wd g' w ∧ kx_RG g g' a2 op true) (by decide) (Nat.le_of_ble_eq_true rfl) (by
          refine kx_st 0 (pc' := 0) (L' := [some (.ref 65), none, none, none, none]) (st' := []) (h' := kv_wd g w) rfl ?_
          refine kx_st 1 (pc' := 1) (L' := [some (.ref 65), none, none, none, none]) (st' := [.ref 65]) (h' := kv_wd g w) rfl ?_
          obtain ⟨g2, e2, r2⟩ := hv2 E d g w hs
          have hs2 := kx_RS_of hs r2
          refine kx_call (z := 162) (as := [.ref 65]) (rest := []) (v := some (.int v)) (h1 := kv_wd g2 w) rfl e2 ?_
          refine kx_st 0 (pc' := 4) (L' := [some (.ref 65), none, none, none, none]) (st' := [.int v]) (h' := kv_wd g2 w) rfl ?_
          refine kx_st 3 (pc' := 9) (L' := [some (.ref 65), some (.int v), none, none, none]) (st' := [.int (g2 65 14)]) (h' := kv_wd g2 w) rfl ?_
          refine kx_bc (t := 23) rfl rfl (fun (h9 : g2 65 14 = 0) => ?_) (fun (h9 : ¬ (g2 65 14 = 0)) => ?_)
          · exact absurd h9 (by rw [hs2.2.2.1]; decide)
          · refine kx_st 0 (pc' := 12) (L' := [some (.ref 65), some (.int v), none, none, none]) (st' := []) (h' := kv_wd g2 w) rfl ?_
            refine kx_st 3 (pc' := 17) (L' := [some (.ref 65), some (.int v), none, none, none]) (st' := [.int (g2 65 8), .ref 65]) (h' := kv_wd g2 w) rfl ?_
            refine kx_call (z := 155) (as := [.ref 65, .int (g2 65 8)]) (rest := []) (v := some (.int (kx_bt tx n a2))) (h1 := kv_wd g2 w) rfl (by rw [show g2 65 8 = nI a2 from hs2.1.2.1]; exact kx_ev_le (d := 0 + 1) (by omega) (ev_byteAt (d := 0) hs2 n50 u1 a2 (by omega))) ?_
            refine kx_st 0 (pc' := 20) (L' := [some (.ref 65), some (.int v), none, none, none]) (st' := [.int (kx_bt tx n a2)]) (h' := kv_wd g2 w) rfl ?_
            refine kx_st 4 (pc' := 28) (L' := [some (.ref 65), some (.int v), some (.int (kx_bt tx n a2)), none, none]) (st' := [.int 60, .int (kx_bt tx n a2)]) (h' := kv_wd g2 w) rfl ?_
            refine kx_bi (t := 45) rfl rfl (fun (h28 : kx_bt tx n a2 = 60) => ?_) (fun (h28 : ¬ (kx_bt tx n a2 = 60)) => ?_)
            · exact absurd h28 (kx_bn_60 hk)
            · refine kx_st 0 (pc' := 31) (L' := [some (.ref 65), some (.int v), some (.int (kx_bt tx n a2)), none, none]) (st' := []) (h' := kv_wd g2 w) rfl ?_
              refine kx_st 2 (pc' := 34) (L' := [some (.ref 65), some (.int v), some (.int (kx_bt tx n a2)), none, none]) (st' := [.int 61, .int (kx_bt tx n a2)]) (h' := kv_wd g2 w) rfl ?_
              refine kx_bi (t := 45) rfl rfl (fun (h34 : kx_bt tx n a2 = 61) => ?_) (fun (h34 : ¬ (kx_bt tx n a2 = 61)) => ?_)
              · exact absurd h34 (kx_bn_61 hk)
              · refine kx_st 0 (pc' := 37) (L' := [some (.ref 65), some (.int v), some (.int (kx_bt tx n a2)), none, none]) (st' := []) (h' := kv_wd g2 w) rfl ?_
                refine kx_st 2 (pc' := 40) (L' := [some (.ref 65), some (.int v), some (.int (kx_bt tx n a2)), none, none]) (st' := [.int 62, .int (kx_bt tx n a2)]) (h' := kv_wd g2 w) rfl ?_
                refine kx_bi (t := 45) rfl rfl (fun (h40 : kx_bt tx n a2 = 62) => ?_) (fun (h40 : ¬ (kx_bt tx n a2 = 62)) => ?_)
                · exact absurd h40 (kx_bn_62 hk)
                · refine kx_st 0 (pc' := 43) (L' := [some (.ref 65), some (.int v), some (.int (kx_bt tx n a2)), none, none]) (st' := []) (h' := kv_wd g2 w) rfl ?_
                  refine kx_st 1 (pc' := 44) (L' := [some (.ref 65), some (.int v), some (.int (kx_bt tx n a2)), none, none]) (st' := [.int v]) (h' := kv_wd g2 w) rfl ?_
                  refine kx_ret (v := some (.int v)) rfl ?_
                  exact ⟨rfl, _, rfl, r2⟩)
        exact ⟨g', kx_ev_le (by omega) he, hh⟩
/-- every place, every depth -/
theorem kx_all_0 {tx : Nat → Int32} {n : Nat} (n50 : n ≤ 50) (htx : ∀ j, j < n → ∃ b, b ≤ 255 ∧ tx j = nI b) : ∀ k op, op + k = 5 → (∀ a, a ≤ n → kx_PQ tx n 0 op a) ∧ ∀ a, a ≤ n → kx_PL tx n 0 0 9 165 op a := by
  intro k
  induction k with
  | zero =>
    intro op hop
    have h0 : ∀ a, a ≤ n → kx_PQ tx n 0 op a := fun a ha => kx_pq_0 n50 htx ha (by omega) (fun h => by omega) (fun h => by omega)
    exact ⟨h0, kx_pl_0 n50 (by omega) (kx_pl_1 n50 (by omega) (kx_pl_2 n50 (by omega) (kx_pl_3 n50 (by omega) (kx_pl_4 n50 (by omega) (fun a ha => kx_pl5 (h0 a ha))))))⟩
  | succ k ih =>
    intro op hop
    obtain ⟨i1, i2⟩ := ih (op + 1) (by omega)
    have h0 : ∀ a, a ≤ n → kx_PQ tx n 0 op a := fun a ha => kx_pq_0 n50 htx ha (by omega) (fun _ => i1) (fun _ => i2)
    exact ⟨h0, kx_pl_0 n50 (by omega) (kx_pl_1 n50 (by omega) (kx_pl_2 n50 (by omega) (kx_pl_3 n50 (by omega) (kx_pl_4 n50 (by omega) (fun a ha => kx_pl5 (h0 a ha))))))⟩
/-- every place, every depth -/
theorem kx_all_1 {tx : Nat → Int32} {n : Nat} (n50 : n ≤ 50) (htx : ∀ j, j < n → ∃ b, b ≤ 255 ∧ tx j = nI b) : ∀ k op, op + k = 5 → (∀ a, a ≤ n → kx_PQ tx n 1 op a) ∧ ∀ a, a ≤ n → kx_PL tx n 1 0 9 165 op a := by
  intro k
  induction k with
  | zero =>
    intro op hop
    have h0 : ∀ a, a ≤ n → kx_PQ tx n 1 op a := fun a ha => kx_pq_1 n50 htx ha (by omega) (fun h => by omega) (fun h => by omega)
    exact ⟨h0, kx_pl_0 n50 (by omega) (kx_pl_1 n50 (by omega) (kx_pl_2 n50 (by omega) (kx_pl_3 n50 (by omega) (kx_pl_4 n50 (by omega) (fun a ha => kx_pl5 (h0 a ha))))))⟩
  | succ k ih =>
    intro op hop
    obtain ⟨i1, i2⟩ := ih (op + 1) (by omega)
    have h0 : ∀ a, a ≤ n → kx_PQ tx n 1 op a := fun a ha => kx_pq_1 n50 htx ha (by omega) (fun _ => i1) (fun _ => i2)
    exact ⟨h0, kx_pl_0 n50 (by omega) (kx_pl_1 n50 (by omega) (kx_pl_2 n50 (by omega) (kx_pl_3 n50 (by omega) (kx_pl_4 n50 (by omega) (fun a ha => kx_pl5 (h0 a ha))))))⟩
