/-! OPEN: one pass of the class, again and again of the reference -/
def kx_T (K : Nat → Nat → Int32) (j : Nat) : Bool := decide (K j 7 = 1)
theorem kx_und_n {T W : Nat → Bool} {U : Nat → Int32} {j : Nat} (h8 : j < 8) (h : U j = -1) : kx_und T W U j = true ↔ T j = true ∧ W j = true := by
  rw [kx_und_eq (Or.inl h) h8, decide_eq_true (show U j < 0 by rw [h]; decide)]
  simp
theorem kx_und_u {T W : Nat → Bool} {U : Nat → Int32} {j u : Nat} (h8 : j < 8) (hu : u < j) (h : U j = nI u) : kx_und T W U j = true ↔ T j = true ∧ W j = true ∧ (T u = true → kx_und T W U u = true) := by
  rw [kx_und_eq (Or.inr ⟨u, hu, h⟩) h8, h, nI_clamp (by omega), decide_eq_false (show ¬ nI u < 0 from nI_pos (by omega))]
  cases T j <;> cases W j <;> cases T u <;> cases kx_und T W U u <;> simp
theorem kx_tied_mk {T : Nat → Int32} : ∀ m, m ≤ 8 → (∀ j, j < m → T j = 0 ∨ T j = 1) → kx_or (kx_td T) m = nI (kx_mk (fun j => decide (T j = 1)) m) := by
  intro m
  induction m with
  | zero => intro _ _; rfl
  | succ m ih =>
    intro hm h01
    rw [kx_or, ih (by omega) (fun j hj => h01 j (by omega))]
    show _ = nI (if decide (T m = 1) = true then _ else _)
    rcases h01 m (by omega) with h | h
    · rw [kx_td_0 h, kx_or0, if_neg (by rw [decide_eq_true_iff, h]; decide)]
    · rw [kx_td_1 (by rw [h]; decide), if_pos (decide_eq_true h)]
      exact kx_orb _ (kx_256 (kx_mk_lt _ m) (by omega)) m (by omega)
theorem kx_Sb_y {S m i : Nat} {T UN : Nat → Bool} (hS : S < 256) (i8 : i < 8) (h : ∀ j, j < 8 → S.testBit j = (decide (j < m) && T j && !(decide (j < i) && UN j))) (hU : UN i = true) : ∀ j, j < 8 → (S &&& (255 ^^^ 2 ^ i)).testBit j = (decide (j < m) && T j && !(decide (j < i + 1) && UN j)) := by
  intro j hj
  rw [kx_cb8 S hS i i8 j hj, h j hj]
  by_cases hji : j = i
  · subst hji; simp [hU]
  · have e2 : decide (j < i + 1) = decide (j < i) := by rw [decide_eq_decide]; omega
    have e3 : (j == i) = false := by simpa using hji
    rw [e2, e3]; simp
theorem kx_Sb_n {S m i : Nat} {T UN : Nat → Bool} (h : ∀ j, j < 8 → S.testBit j = (decide (j < m) && T j && !(decide (j < i) && UN j))) (hU : ¬ UN i = true) : ∀ j, j < 8 → S.testBit j = (decide (j < m) && T j && !(decide (j < i + 1) && UN j)) := by
  intro j hj
  rw [h j hj]
  by_cases hji : j = i
  · subst hji; simp at hU; simp [hU]
  · have e2 : decide (j < i + 1) = decide (j < i) := by rw [decide_eq_decide]; omega
    rw [e2]
theorem kx_wz {F1 : kx_FF} {q : kx_Q} {K : Nat → Int32} {s tt : Nat} (hs : s ≤ 6) : (kx_lf (fun a b => decide (a < s) && decide (kx_lsn F1 q K a b ∨ kx_lsn F1 q K b a)) 36 &&& kx_lf (fun a b => tt.testBit a && tt.testBit b) 36 = 0) ↔ ¬ kx_wy F1 q K s tt = true := by
  rw [kx_lf_z, kx_wy_i hs]
  refine not_congr ⟨?_, ?_⟩
  · rintro ⟨a, b, h1, h2, h3, h4⟩
    rw [Bool.and_eq_true] at h3 h4
    have ha := of_decide_eq_true h3.1
    rcases of_decide_eq_true h3.2 with h | h
    · exact ⟨a, b, ha, by omega, by omega, h4.1, h4.2, h⟩
    · exact ⟨b, a, by omega, ha, by omega, h4.2, h4.1, h⟩
  · rintro ⟨a, b, h1, h2, h3, h4, h5, h6⟩
    by_cases hab : b < a
    · exact ⟨a, b, by omega, hab, by rw [Bool.and_eq_true]; exact ⟨decide_eq_true h1, decide_eq_true (Or.inl h6)⟩, by rw [Bool.and_eq_true]; exact ⟨h4, h5⟩⟩
    · exact ⟨b, a, by omega, by omega, by rw [Bool.and_eq_true]; exact ⟨decide_eq_true h2, decide_eq_true (Or.inr h6)⟩, by rw [Bool.and_eq_true]; exact ⟨h5, h4⟩⟩
theorem kx_cmp0 {x : Int64} : lg_cmp x 0 = 0 ↔ x = 0 := by
  unfold lg_cmp
  constructor
  · intro h
    split at h
    · exact absurd h (by decide)
    · split at h
      · assumption
      · exact absurd h (by decide)
  · intro h
    subst h
    rfl
set_option maxRecDepth 100000 in
theorem lp_openWith {E : kv_V} {d : Nat} {g : kv_S} {w : kv_W} {F0 F1 : kx_FF} {s t m : Nat} {K : Nat → Nat → Int32} (hX : kx_X F0 F1 s t m K g) (hq5 : ∀ j, j < 8 → w.2 5 j = some (14 + j)) (hKB : ∀ k, k < m → kx_K s k (K k) (K k)) (q : kx_Q) (tt : Nat) (h64 : tt < 64) (hwl : ∀ j, j < m → w.1 j = kx_lf (fun a b => decide (a < s) && decide (kx_lsn F1 q (K j) a b ∨ kx_lsn F1 q (K j) b a)) 36) {P : Option Value → kv_H → Prop} (hP : P (some (.int (nI (kx_mk (kx_und (kx_T K) (fun j => kx_wy F1 q (K j) s tt) (fun j => K j 6)) m)))) (kv_wd g w)) : ∀ (nz i S : Nat) (x8 x9 : Option Value), i + nz = m → S < 256 → (∀ j, j < 8 → Nat.testBit S j = (decide (j < m) && kx_T K j && !(decide (j < i) && (kx_und (kx_T K) (fun j => kx_wy F1 q (K j) s tt) (fun j => K j 6)) j))) → kx_V E d 69 17 [some (.ref 43), some (.ref 1), some (.int (nI tt)), some (.long (kx_lf (fun a b => tt.testBit a && tt.testBit b) 36)), none, some (.int (nI S)), some (.int (nI (kx_mk (kx_und (kx_T K) (fun j => kx_wy F1 q (K j) s tt) (fun j => K j 6)) i))), some (.int (nI i)), x8, x9] [] (kv_wd g w) P := by
  have m8 := hX.1.2.2.2
  have s6 := hX.1.2.1
  intro nz
  induction nz with
  | zero =>
    intro i S x8 x9 hi hS hSb
    have hkN : i = m := by omega
    refine kx_st 3 (pc' := 23) (L' := [some (.ref 43), some (.ref 1), some (.int (nI tt)), some (.long (kx_lf (fun a b => tt.testBit a && tt.testBit b) 36)), none, some (.int (nI S)), some (.int (nI (kx_mk (kx_und (kx_T K) (fun j => kx_wy F1 q (K j) s tt) (fun j => K j 6)) i))), some (.int (nI i)), x8, x9]) (st' := [.int (g 1 4), .int (nI i)]) (h' := kv_wd g w) rfl ?_
    refine kx_bi (t := 127) rfl rfl (fun (h23 : g 1 4 ≤ nI i) => ?_) (fun (h23 : ¬ (g 1 4 ≤ nI i)) => ?_)
    · refine kx_st 1 (pc' := 129) (L' := [some (.ref 43), some (.ref 1), some (.int (nI tt)), some (.long (kx_lf (fun a b => tt.testBit a && tt.testBit b) 36)), none, some (.int (nI S)), some (.int (nI (kx_mk (kx_und (kx_T K) (fun j => kx_wy F1 q (K j) s tt) (fun j => K j 6)) i))), some (.int (nI i)), x8, x9]) (st' := [.int (nI (kx_mk (kx_und (kx_T K) (fun j => kx_wy F1 q (K j) s tt) (fun j => K j 6)) i))]) (h' := kv_wd g w) rfl ?_
      refine kx_ret (v := some (.int (nI (kx_mk (kx_und (kx_T K) (fun j => kx_wy F1 q (K j) s tt) (fun j => K j 6)) i)))) rfl ?_
      subst hkN
      exact hP
    · exact absurd (by rw [hX.2.1.2.2]; exact nI_le (by omega) (by omega)) h23
  | succ nz ih =>
    intro i S x8 x9 hi hS hSb
    have him : i < m := by omega
    have hi8 : i < 8 := by omega
    have tI : (((nI S >>> (nI i &&& 31)) &&& 1) = 1) ↔ kx_T K i = true := by
      rw [kx_tb8 S hS i hi8, hSb i hi8]; simp [him]
    have tW : lg_cmp (w.1 i &&& kx_lf (fun a b => tt.testBit a && tt.testBit b) 36) 0 = 0 ↔ ¬ kx_wy F1 q (K i) s tt = true := by
      rw [kx_cmp0, hwl i him, kx_wz s6]
    have e6 : g (14 + i) 6 = K i 6 := hX.2.2.2.2 i him 6 (by omega)
    rcases (hKB i him).2.2.2.2.2.2.1 with h6 | ⟨u, hu, h6⟩
    · refine kx_st 3 (pc' := 23) (L' := [some (.ref 43), some (.ref 1), some (.int (nI tt)), some (.long (kx_lf (fun a b => tt.testBit a && tt.testBit b) 36)), none, some (.int (nI S)), some (.int (nI (kx_mk (kx_und (kx_T K) (fun j => kx_wy F1 q (K j) s tt) (fun j => K j 6)) i))), some (.int (nI i)), x8, x9]) (st' := [.int (g 1 4), .int (nI i)]) (h' := kv_wd g w) rfl ?_
      refine kx_bi (t := 127) rfl rfl (fun (h23 : g 1 4 ≤ nI i) => ?_) (fun (h23 : ¬ (g 1 4 ≤ nI i)) => ?_)
      · exact absurd h23 (by rw [hX.2.1.2.2]; exact nI_ge (a := i) (b := m) (by omega) (by omega))
      · refine kx_st 0 (pc' := 26) (L' := [some (.ref 43), some (.ref 1), some (.int (nI tt)), some (.long (kx_lf (fun a b => tt.testBit a && tt.testBit b) 36)), none, some (.int (nI S)), some (.int (nI (kx_mk (kx_und (kx_T K) (fun j => kx_wy F1 q (K j) s tt) (fun j => K j 6)) i))), some (.int (nI i)), x8, x9]) (st' := []) (h' := kv_wd g w) rfl ?_
        refine kx_st 4 (pc' := 33) (L' := [some (.ref 43), some (.ref 1), some (.int (nI tt)), some (.long (kx_lf (fun a b => tt.testBit a && tt.testBit b) 36)), none, some (.int (nI S)), some (.int (nI (kx_mk (kx_und (kx_T K) (fun j => kx_wy F1 q (K j) s tt) (fun j => K j 6)) i))), some (.int (nI i)), x8, x9]) (st' := [.int 8, .int (nI i)]) (h' := kv_wd g w) rfl ?_
        refine kx_bi (t := 127) rfl rfl (fun (h33 : 8 ≤ nI i) => ?_) (fun (h33 : ¬ (8 ≤ nI i)) => ?_)
        · exact absurd h33 (nI_ge (a := i) (b := 8) (by omega) (by omega))
        · refine kx_st 0 (pc' := 36) (L' := [some (.ref 43), some (.ref 1), some (.int (nI tt)), some (.long (kx_lf (fun a b => tt.testBit a && tt.testBit b) 36)), none, some (.int (nI S)), some (.int (nI (kx_mk (kx_und (kx_T K) (fun j => kx_wy F1 q (K j) s tt) (fun j => K j 6)) i))), some (.int (nI i)), x8, x9]) (st' := []) (h' := kv_wd g w) rfl ?_
          refine kx_st 3 (pc' := 42) (L' := [some (.ref 43), some (.ref 1), some (.int (nI tt)), some (.long (kx_lf (fun a b => tt.testBit a && tt.testBit b) 36)), none, some (.int (nI S)), some (.int (nI (kx_mk (kx_und (kx_T K) (fun j => kx_wy F1 q (K j) s tt) (fun j => K j 6)) i))), some (.int (nI i)), x8, x9]) (st' := [.int (nI i), .ref 5]) (h' := kv_wd g w) rfl ?_
          refine kx_aa (t := 2) (k := i) (b := (14 + i)) rfl rfl (by decide) (by decide) rfl (by omega) (by decide) (hq5 _ (by omega)) ?_
          refine kx_gf (i := 110) (k := 6) (v := .int (-1)) rfl rfl (kv_kn_h hi8).1 ((kv_kn_h hi8).2 _ _) (congrArg (fun z => some (Value.int z)) (e6.trans h6)) ?_
          refine kx_st 2 (pc' := 50) (L' := [some (.ref 43), some (.ref 1), some (.int (nI tt)), some (.long (kx_lf (fun a b => tt.testBit a && tt.testBit b) 36)), none, some (.int (nI S)), some (.int (nI (kx_mk (kx_und (kx_T K) (fun j => kx_wy F1 q (K j) s tt) (fun j => K j 6)) i))), some (.int (nI i)), some (.int (-1)), x9]) (st' := [.int (-1)]) (h' := kv_wd g w) rfl ?_
          refine kx_st 1 (pc' := 68) (L' := [some (.ref 43), some (.ref 1), some (.int (nI tt)), some (.long (kx_lf (fun a b => tt.testBit a && tt.testBit b) 36)), none, some (.int (nI S)), some (.int (nI (kx_mk (kx_und (kx_T K) (fun j => kx_wy F1 q (K j) s tt) (fun j => K j 6)) i))), some (.int (nI i)), some (.int (-1)), x9]) (st' := []) (h' := kv_wd g w) rfl ?_
          refine kx_st 8 (pc' := 79) (L' := [some (.ref 43), some (.ref 1), some (.int (nI tt)), some (.long (kx_lf (fun a b => tt.testBit a && tt.testBit b) 36)), none, some (.int (nI S)), some (.int (nI (kx_mk (kx_und (kx_T K) (fun j => kx_wy F1 q (K j) s tt) (fun j => K j 6)) i))), some (.int (nI i)), some (.int (-1)), some (.int 0)]) (st' := [.int 1, .int (((nI S) >>> ((nI i) &&& 31)) &&& 1)]) (h' := kv_wd g w) rfl ?_
          refine kx_bi (t := 121) rfl rfl (fun (h79 : ¬ ((nI S) >>> ((nI i) &&& 31)) &&& 1 = 1) => ?_) (fun (h79 : ¬ (¬ ((nI S) >>> ((nI i) &&& 31)) &&& 1 = 1)) => ?_)
          · refine kx_st 2 (pc' := 17) (L' := [some (.ref 43), some (.ref 1), some (.int (nI tt)), some (.long (kx_lf (fun a b => tt.testBit a && tt.testBit b) 36)), none, some (.int (nI S)), some (.int (nI (kx_mk (kx_und (kx_T K) (fun j => kx_wy F1 q (K j) s tt) (fun j => K j 6)) i))), some (.int ((nI i) + 1)), some (.int (-1)), some (.int 0)]) (st' := []) (h' := kv_wd g w) rfl ?_
            have hU : ¬ (kx_und (kx_T K) (fun j => kx_wy F1 q (K j) s tt) (fun j => K j 6)) i = true := fun z => h79 (tI.mpr ((kx_und_n (T := kx_T K) (W := fun j => kx_wy F1 q (K j) s tt) (U := fun j => K j 6) hi8 h6).mp z).1)
            have hh := ih (i + 1) S (some (.int (-1))) (some (.int 0)) (by omega) hS (kx_Sb_n hSb hU)
            rw [show kx_mk (kx_und (kx_T K) (fun j => kx_wy F1 q (K j) s tt) (fun j => K j 6)) (i + 1) = kx_mk (kx_und (kx_T K) (fun j => kx_wy F1 q (K j) s tt) (fun j => K j 6)) i from if_neg hU, nI_succ] at hh
            exact hh
          · refine kx_st 0 (pc' := 82) (L' := [some (.ref 43), some (.ref 1), some (.int (nI tt)), some (.long (kx_lf (fun a b => tt.testBit a && tt.testBit b) 36)), none, some (.int (nI S)), some (.int (nI (kx_mk (kx_und (kx_T K) (fun j => kx_wy F1 q (K j) s tt) (fun j => K j 6)) i))), some (.int (nI i)), some (.int (-1)), some (.int 0)]) (st' := []) (h' := kv_wd g w) rfl ?_
            refine kx_st 1 (pc' := 84) (L' := [some (.ref 43), some (.ref 1), some (.int (nI tt)), some (.long (kx_lf (fun a b => tt.testBit a && tt.testBit b) 36)), none, some (.int (nI S)), some (.int (nI (kx_mk (kx_und (kx_T K) (fun j => kx_wy F1 q (K j) s tt) (fun j => K j 6)) i))), some (.int (nI i)), some (.int (-1)), some (.int 0)]) (st' := [.int 0]) (h' := kv_wd g w) rfl ?_
            refine kx_st 1 (pc' := 87) (L' := [some (.ref 43), some (.ref 1), some (.int (nI tt)), some (.long (kx_lf (fun a b => tt.testBit a && tt.testBit b) 36)), none, some (.int (nI S)), some (.int (nI (kx_mk (kx_und (kx_T K) (fun j => kx_wy F1 q (K j) s tt) (fun j => K j 6)) i))), some (.int (nI i)), some (.int (-1)), some (.int 0)]) (st' := []) (h' := kv_wd g w) rfl ?_
            refine kx_st 3 (pc' := 93) (L' := [some (.ref 43), some (.ref 1), some (.int (nI tt)), some (.long (kx_lf (fun a b => tt.testBit a && tt.testBit b) 36)), none, some (.int (nI S)), some (.int (nI (kx_mk (kx_und (kx_T K) (fun j => kx_wy F1 q (K j) s tt) (fun j => K j 6)) i))), some (.int (nI i)), some (.int (-1)), some (.int 0)]) (st' := [.int (nI i), .ref 47]) (h' := kv_wd g w) rfl ?_
            refine kx_la (k := i) rfl rfl (by omega) ?_
            refine kx_st 4 (pc' := 98) (L' := [some (.ref 43), some (.ref 1), some (.int (nI tt)), some (.long (kx_lf (fun a b => tt.testBit a && tt.testBit b) 36)), none, some (.int (nI S)), some (.int (nI (kx_mk (kx_und (kx_T K) (fun j => kx_wy F1 q (K j) s tt) (fun j => K j 6)) i))), some (.int (nI i)), some (.int (-1)), some (.int 0)]) (st' := [.int (lg_cmp ((w.1 i) &&& (kx_lf (fun a b => tt.testBit a && tt.testBit b) 36)) 0)]) (h' := kv_wd g w) rfl ?_
            refine kx_bc (t := 121) rfl rfl (fun (h98 : lg_cmp ((w.1 i) &&& (kx_lf (fun a b => tt.testBit a && tt.testBit b) 36)) 0 = 0) => ?_) (fun (h98 : ¬ (lg_cmp ((w.1 i) &&& (kx_lf (fun a b => tt.testBit a && tt.testBit b) 36)) 0 = 0)) => ?_)
            · refine kx_st 2 (pc' := 17) (L' := [some (.ref 43), some (.ref 1), some (.int (nI tt)), some (.long (kx_lf (fun a b => tt.testBit a && tt.testBit b) 36)), none, some (.int (nI S)), some (.int (nI (kx_mk (kx_und (kx_T K) (fun j => kx_wy F1 q (K j) s tt) (fun j => K j 6)) i))), some (.int ((nI i) + 1)), some (.int (-1)), some (.int 0)]) (st' := []) (h' := kv_wd g w) rfl ?_
              have hU : ¬ (kx_und (kx_T K) (fun j => kx_wy F1 q (K j) s tt) (fun j => K j 6)) i = true := fun z => tW.mp h98 ((kx_und_n (T := kx_T K) (W := fun j => kx_wy F1 q (K j) s tt) (U := fun j => K j 6) hi8 h6).mp z).2
              have hh := ih (i + 1) S (some (.int (-1))) (some (.int 0)) (by omega) hS (kx_Sb_n hSb hU)
              rw [show kx_mk (kx_und (kx_T K) (fun j => kx_wy F1 q (K j) s tt) (fun j => K j 6)) (i + 1) = kx_mk (kx_und (kx_T K) (fun j => kx_wy F1 q (K j) s tt) (fun j => K j 6)) i from if_neg hU, nI_succ] at hh
              exact hh
            · refine kx_st 0 (pc' := 101) (L' := [some (.ref 43), some (.ref 1), some (.int (nI tt)), some (.long (kx_lf (fun a b => tt.testBit a && tt.testBit b) 36)), none, some (.int (nI S)), some (.int (nI (kx_mk (kx_und (kx_T K) (fun j => kx_wy F1 q (K j) s tt) (fun j => K j 6)) i))), some (.int (nI i)), some (.int (-1)), some (.int 0)]) (st' := []) (h' := kv_wd g w) rfl ?_
              refine kx_st 16 (pc' := 17) (L' := [some (.ref 43), some (.ref 1), some (.int (nI tt)), some (.long (kx_lf (fun a b => tt.testBit a && tt.testBit b) 36)), none, some (.int ((nI S) &&& ((1 <<< ((nI i) &&& 31)) ^^^ (-1)))), some (.int ((nI (kx_mk (kx_und (kx_T K) (fun j => kx_wy F1 q (K j) s tt) (fun j => K j 6)) i)) ||| (1 <<< ((nI i) &&& 31)))), some (.int ((nI i) + 1)), some (.int (-1)), some (.int 0)]) (st' := []) (h' := kv_wd g w) rfl ?_
              have hU : (kx_und (kx_T K) (fun j => kx_wy F1 q (K j) s tt) (fun j => K j 6)) i = true := (kx_und_n (T := kx_T K) (W := fun j => kx_wy F1 q (K j) s tt) (U := fun j => K j 6) hi8 h6).mpr ⟨tI.mp (Classical.not_not.mp h79), Classical.not_not.mp (fun z => h98 (tW.mpr z))⟩
              have hh := ih (i + 1) (S &&& (255 ^^^ 2 ^ i)) (some (.int (-1))) (some (.int 0)) (by omega) (Nat.lt_of_le_of_lt Nat.and_le_left hS) (kx_Sb_y hS hi8 hSb hU)
              rw [show kx_mk (kx_und (kx_T K) (fun j => kx_wy F1 q (K j) s tt) (fun j => K j 6)) (i + 1) = kx_mk (kx_und (kx_T K) (fun j => kx_wy F1 q (K j) s tt) (fun j => K j 6)) i ||| 2 ^ i from if_pos hU, ← kx_cl8 S hS i hi8, ← kx_orb _ (kx_256 (kx_mk_lt _ i) (by omega)) i hi8, nI_succ] at hh
              exact hh
    · have hu8 : u < 8 := by omega
      have tU : (((nI S >>> (nI u &&& 31)) &&& 1) = 1) ↔ ¬ (kx_T K u = true → (kx_und (kx_T K) (fun j => kx_wy F1 q (K j) s tt) (fun j => K j 6)) u = true) := by
        rw [kx_tb8 S hS u hu8, hSb u hu8]
        have z1 : decide (u < m) = true := decide_eq_true (by omega)
        have z2 : decide (u < i) = true := decide_eq_true hu
        rw [z1, z2]
        cases kx_T K u <;> cases (kx_und (kx_T K) (fun j => kx_wy F1 q (K j) s tt) (fun j => K j 6)) u <;> simp
      refine kx_st 3 (pc' := 23) (L' := [some (.ref 43), some (.ref 1), some (.int (nI tt)), some (.long (kx_lf (fun a b => tt.testBit a && tt.testBit b) 36)), none, some (.int (nI S)), some (.int (nI (kx_mk (kx_und (kx_T K) (fun j => kx_wy F1 q (K j) s tt) (fun j => K j 6)) i))), some (.int (nI i)), x8, x9]) (st' := [.int (g 1 4), .int (nI i)]) (h' := kv_wd g w) rfl ?_
      refine kx_bi (t := 127) rfl rfl (fun (h23 : g 1 4 ≤ nI i) => ?_) (fun (h23 : ¬ (g 1 4 ≤ nI i)) => ?_)
      · exact absurd h23 (by rw [hX.2.1.2.2]; exact nI_ge (a := i) (b := m) (by omega) (by omega))
      · refine kx_st 0 (pc' := 26) (L' := [some (.ref 43), some (.ref 1), some (.int (nI tt)), some (.long (kx_lf (fun a b => tt.testBit a && tt.testBit b) 36)), none, some (.int (nI S)), some (.int (nI (kx_mk (kx_und (kx_T K) (fun j => kx_wy F1 q (K j) s tt) (fun j => K j 6)) i))), some (.int (nI i)), x8, x9]) (st' := []) (h' := kv_wd g w) rfl ?_
        refine kx_st 4 (pc' := 33) (L' := [some (.ref 43), some (.ref 1), some (.int (nI tt)), some (.long (kx_lf (fun a b => tt.testBit a && tt.testBit b) 36)), none, some (.int (nI S)), some (.int (nI (kx_mk (kx_und (kx_T K) (fun j => kx_wy F1 q (K j) s tt) (fun j => K j 6)) i))), some (.int (nI i)), x8, x9]) (st' := [.int 8, .int (nI i)]) (h' := kv_wd g w) rfl ?_
        refine kx_bi (t := 127) rfl rfl (fun (h33 : 8 ≤ nI i) => ?_) (fun (h33 : ¬ (8 ≤ nI i)) => ?_)
        · exact absurd h33 (nI_ge (a := i) (b := 8) (by omega) (by omega))
        · refine kx_st 0 (pc' := 36) (L' := [some (.ref 43), some (.ref 1), some (.int (nI tt)), some (.long (kx_lf (fun a b => tt.testBit a && tt.testBit b) 36)), none, some (.int (nI S)), some (.int (nI (kx_mk (kx_und (kx_T K) (fun j => kx_wy F1 q (K j) s tt) (fun j => K j 6)) i))), some (.int (nI i)), x8, x9]) (st' := []) (h' := kv_wd g w) rfl ?_
          refine kx_st 3 (pc' := 42) (L' := [some (.ref 43), some (.ref 1), some (.int (nI tt)), some (.long (kx_lf (fun a b => tt.testBit a && tt.testBit b) 36)), none, some (.int (nI S)), some (.int (nI (kx_mk (kx_und (kx_T K) (fun j => kx_wy F1 q (K j) s tt) (fun j => K j 6)) i))), some (.int (nI i)), x8, x9]) (st' := [.int (nI i), .ref 5]) (h' := kv_wd g w) rfl ?_
          refine kx_aa (t := 2) (k := i) (b := (14 + i)) rfl rfl (by decide) (by decide) rfl (by omega) (by decide) (hq5 _ (by omega)) ?_
          refine kx_gf (i := 110) (k := 6) (v := .int (nI u)) rfl rfl (kv_kn_h hi8).1 ((kv_kn_h hi8).2 _ _) (congrArg (fun z => some (Value.int z)) (e6.trans h6)) ?_
          refine kx_st 2 (pc' := 50) (L' := [some (.ref 43), some (.ref 1), some (.int (nI tt)), some (.long (kx_lf (fun a b => tt.testBit a && tt.testBit b) 36)), none, some (.int (nI S)), some (.int (nI (kx_mk (kx_und (kx_T K) (fun j => kx_wy F1 q (K j) s tt) (fun j => K j 6)) i))), some (.int (nI i)), some (.int (nI u)), x9]) (st' := [.int (nI u)]) (h' := kv_wd g w) rfl ?_
          refine kx_bc (t := 68) rfl rfl (fun (h50 : nI u < 0) => ?_) (fun (h50 : ¬ (nI u < 0)) => ?_)
          · exact absurd h50 (nI_pos (by omega))
          · refine kx_st 0 (pc' := 53) (L' := [some (.ref 43), some (.ref 1), some (.int (nI tt)), some (.long (kx_lf (fun a b => tt.testBit a && tt.testBit b) 36)), none, some (.int (nI S)), some (.int (nI (kx_mk (kx_und (kx_T K) (fun j => kx_wy F1 q (K j) s tt) (fun j => K j 6)) i))), some (.int (nI i)), some (.int (nI u)), x9]) (st' := []) (h' := kv_wd g w) rfl ?_
            refine kx_st 6 (pc' := 61) (L' := [some (.ref 43), some (.ref 1), some (.int (nI tt)), some (.long (kx_lf (fun a b => tt.testBit a && tt.testBit b) 36)), none, some (.int (nI S)), some (.int (nI (kx_mk (kx_und (kx_T K) (fun j => kx_wy F1 q (K j) s tt) (fun j => K j 6)) i))), some (.int (nI i)), some (.int (nI u)), x9]) (st' := [.int 1, .int (((nI S) >>> ((nI u) &&& 31)) &&& 1)]) (h' := kv_wd g w) rfl ?_
            refine kx_bi (t := 68) rfl rfl (fun (h61 : ¬ ((nI S) >>> ((nI u) &&& 31)) &&& 1 = 1) => ?_) (fun (h61 : ¬ (¬ ((nI S) >>> ((nI u) &&& 31)) &&& 1 = 1)) => ?_)
            · refine kx_st 8 (pc' := 79) (L' := [some (.ref 43), some (.ref 1), some (.int (nI tt)), some (.long (kx_lf (fun a b => tt.testBit a && tt.testBit b) 36)), none, some (.int (nI S)), some (.int (nI (kx_mk (kx_und (kx_T K) (fun j => kx_wy F1 q (K j) s tt) (fun j => K j 6)) i))), some (.int (nI i)), some (.int (nI u)), some (.int 0)]) (st' := [.int 1, .int (((nI S) >>> ((nI i) &&& 31)) &&& 1)]) (h' := kv_wd g w) rfl ?_
              refine kx_bi (t := 121) rfl rfl (fun (h79 : ¬ ((nI S) >>> ((nI i) &&& 31)) &&& 1 = 1) => ?_) (fun (h79 : ¬ (¬ ((nI S) >>> ((nI i) &&& 31)) &&& 1 = 1)) => ?_)
              · refine kx_st 2 (pc' := 17) (L' := [some (.ref 43), some (.ref 1), some (.int (nI tt)), some (.long (kx_lf (fun a b => tt.testBit a && tt.testBit b) 36)), none, some (.int (nI S)), some (.int (nI (kx_mk (kx_und (kx_T K) (fun j => kx_wy F1 q (K j) s tt) (fun j => K j 6)) i))), some (.int ((nI i) + 1)), some (.int (nI u)), some (.int 0)]) (st' := []) (h' := kv_wd g w) rfl ?_
                have hU : ¬ (kx_und (kx_T K) (fun j => kx_wy F1 q (K j) s tt) (fun j => K j 6)) i = true := fun z => h79 (tI.mpr ((kx_und_u (T := kx_T K) (W := fun j => kx_wy F1 q (K j) s tt) (U := fun j => K j 6) hi8 hu h6).mp z).1)
                have hh := ih (i + 1) S (some (.int (nI u))) (some (.int 0)) (by omega) hS (kx_Sb_n hSb hU)
                rw [show kx_mk (kx_und (kx_T K) (fun j => kx_wy F1 q (K j) s tt) (fun j => K j 6)) (i + 1) = kx_mk (kx_und (kx_T K) (fun j => kx_wy F1 q (K j) s tt) (fun j => K j 6)) i from if_neg hU, nI_succ] at hh
                exact hh
              · refine kx_st 0 (pc' := 82) (L' := [some (.ref 43), some (.ref 1), some (.int (nI tt)), some (.long (kx_lf (fun a b => tt.testBit a && tt.testBit b) 36)), none, some (.int (nI S)), some (.int (nI (kx_mk (kx_und (kx_T K) (fun j => kx_wy F1 q (K j) s tt) (fun j => K j 6)) i))), some (.int (nI i)), some (.int (nI u)), some (.int 0)]) (st' := []) (h' := kv_wd g w) rfl ?_
                refine kx_st 1 (pc' := 84) (L' := [some (.ref 43), some (.ref 1), some (.int (nI tt)), some (.long (kx_lf (fun a b => tt.testBit a && tt.testBit b) 36)), none, some (.int (nI S)), some (.int (nI (kx_mk (kx_und (kx_T K) (fun j => kx_wy F1 q (K j) s tt) (fun j => K j 6)) i))), some (.int (nI i)), some (.int (nI u)), some (.int 0)]) (st' := [.int 0]) (h' := kv_wd g w) rfl ?_
                refine kx_st 1 (pc' := 87) (L' := [some (.ref 43), some (.ref 1), some (.int (nI tt)), some (.long (kx_lf (fun a b => tt.testBit a && tt.testBit b) 36)), none, some (.int (nI S)), some (.int (nI (kx_mk (kx_und (kx_T K) (fun j => kx_wy F1 q (K j) s tt) (fun j => K j 6)) i))), some (.int (nI i)), some (.int (nI u)), some (.int 0)]) (st' := []) (h' := kv_wd g w) rfl ?_
                refine kx_st 3 (pc' := 93) (L' := [some (.ref 43), some (.ref 1), some (.int (nI tt)), some (.long (kx_lf (fun a b => tt.testBit a && tt.testBit b) 36)), none, some (.int (nI S)), some (.int (nI (kx_mk (kx_und (kx_T K) (fun j => kx_wy F1 q (K j) s tt) (fun j => K j 6)) i))), some (.int (nI i)), some (.int (nI u)), some (.int 0)]) (st' := [.int (nI i), .ref 47]) (h' := kv_wd g w) rfl ?_
                refine kx_la (k := i) rfl rfl (by omega) ?_
                refine kx_st 4 (pc' := 98) (L' := [some (.ref 43), some (.ref 1), some (.int (nI tt)), some (.long (kx_lf (fun a b => tt.testBit a && tt.testBit b) 36)), none, some (.int (nI S)), some (.int (nI (kx_mk (kx_und (kx_T K) (fun j => kx_wy F1 q (K j) s tt) (fun j => K j 6)) i))), some (.int (nI i)), some (.int (nI u)), some (.int 0)]) (st' := [.int (lg_cmp ((w.1 i) &&& (kx_lf (fun a b => tt.testBit a && tt.testBit b) 36)) 0)]) (h' := kv_wd g w) rfl ?_
                refine kx_bc (t := 121) rfl rfl (fun (h98 : lg_cmp ((w.1 i) &&& (kx_lf (fun a b => tt.testBit a && tt.testBit b) 36)) 0 = 0) => ?_) (fun (h98 : ¬ (lg_cmp ((w.1 i) &&& (kx_lf (fun a b => tt.testBit a && tt.testBit b) 36)) 0 = 0)) => ?_)
                · refine kx_st 2 (pc' := 17) (L' := [some (.ref 43), some (.ref 1), some (.int (nI tt)), some (.long (kx_lf (fun a b => tt.testBit a && tt.testBit b) 36)), none, some (.int (nI S)), some (.int (nI (kx_mk (kx_und (kx_T K) (fun j => kx_wy F1 q (K j) s tt) (fun j => K j 6)) i))), some (.int ((nI i) + 1)), some (.int (nI u)), some (.int 0)]) (st' := []) (h' := kv_wd g w) rfl ?_
                  have hU : ¬ (kx_und (kx_T K) (fun j => kx_wy F1 q (K j) s tt) (fun j => K j 6)) i = true := fun z => tW.mp h98 ((kx_und_u (T := kx_T K) (W := fun j => kx_wy F1 q (K j) s tt) (U := fun j => K j 6) hi8 hu h6).mp z).2.1
                  have hh := ih (i + 1) S (some (.int (nI u))) (some (.int 0)) (by omega) hS (kx_Sb_n hSb hU)
                  rw [show kx_mk (kx_und (kx_T K) (fun j => kx_wy F1 q (K j) s tt) (fun j => K j 6)) (i + 1) = kx_mk (kx_und (kx_T K) (fun j => kx_wy F1 q (K j) s tt) (fun j => K j 6)) i from if_neg hU, nI_succ] at hh
                  exact hh
                · refine kx_st 0 (pc' := 101) (L' := [some (.ref 43), some (.ref 1), some (.int (nI tt)), some (.long (kx_lf (fun a b => tt.testBit a && tt.testBit b) 36)), none, some (.int (nI S)), some (.int (nI (kx_mk (kx_und (kx_T K) (fun j => kx_wy F1 q (K j) s tt) (fun j => K j 6)) i))), some (.int (nI i)), some (.int (nI u)), some (.int 0)]) (st' := []) (h' := kv_wd g w) rfl ?_
                  refine kx_st 16 (pc' := 17) (L' := [some (.ref 43), some (.ref 1), some (.int (nI tt)), some (.long (kx_lf (fun a b => tt.testBit a && tt.testBit b) 36)), none, some (.int ((nI S) &&& ((1 <<< ((nI i) &&& 31)) ^^^ (-1)))), some (.int ((nI (kx_mk (kx_und (kx_T K) (fun j => kx_wy F1 q (K j) s tt) (fun j => K j 6)) i)) ||| (1 <<< ((nI i) &&& 31)))), some (.int ((nI i) + 1)), some (.int (nI u)), some (.int 0)]) (st' := []) (h' := kv_wd g w) rfl ?_
                  have hU : (kx_und (kx_T K) (fun j => kx_wy F1 q (K j) s tt) (fun j => K j 6)) i = true := (kx_und_u (T := kx_T K) (W := fun j => kx_wy F1 q (K j) s tt) (U := fun j => K j 6) hi8 hu h6).mpr ⟨tI.mp (Classical.not_not.mp h79), Classical.not_not.mp (fun z => h98 (tW.mpr z)), Classical.not_not.mp (fun z => h61 (tU.mpr z))⟩
                  have hh := ih (i + 1) (S &&& (255 ^^^ 2 ^ i)) (some (.int (nI u))) (some (.int 0)) (by omega) (Nat.lt_of_le_of_lt Nat.and_le_left hS) (kx_Sb_y hS hi8 hSb hU)
                  rw [show kx_mk (kx_und (kx_T K) (fun j => kx_wy F1 q (K j) s tt) (fun j => K j 6)) (i + 1) = kx_mk (kx_und (kx_T K) (fun j => kx_wy F1 q (K j) s tt) (fun j => K j 6)) i ||| 2 ^ i from if_pos hU, ← kx_cl8 S hS i hi8, ← kx_orb _ (kx_256 (kx_mk_lt _ i) (by omega)) i hi8, nI_succ] at hh
                  exact hh
            · refine kx_st 0 (pc' := 64) (L' := [some (.ref 43), some (.ref 1), some (.int (nI tt)), some (.long (kx_lf (fun a b => tt.testBit a && tt.testBit b) 36)), none, some (.int (nI S)), some (.int (nI (kx_mk (kx_und (kx_T K) (fun j => kx_wy F1 q (K j) s tt) (fun j => K j 6)) i))), some (.int (nI i)), some (.int (nI u)), x9]) (st' := []) (h' := kv_wd g w) rfl ?_
              refine kx_st 9 (pc' := 79) (L' := [some (.ref 43), some (.ref 1), some (.int (nI tt)), some (.long (kx_lf (fun a b => tt.testBit a && tt.testBit b) 36)), none, some (.int (nI S)), some (.int (nI (kx_mk (kx_und (kx_T K) (fun j => kx_wy F1 q (K j) s tt) (fun j => K j 6)) i))), some (.int (nI i)), some (.int (nI u)), some (.int 1)]) (st' := [.int 1, .int (((nI S) >>> ((nI i) &&& 31)) &&& 1)]) (h' := kv_wd g w) rfl ?_
              refine kx_bi (t := 121) rfl rfl (fun (h79 : ¬ ((nI S) >>> ((nI i) &&& 31)) &&& 1 = 1) => ?_) (fun (h79 : ¬ (¬ ((nI S) >>> ((nI i) &&& 31)) &&& 1 = 1)) => ?_)
              · refine kx_st 2 (pc' := 17) (L' := [some (.ref 43), some (.ref 1), some (.int (nI tt)), some (.long (kx_lf (fun a b => tt.testBit a && tt.testBit b) 36)), none, some (.int (nI S)), some (.int (nI (kx_mk (kx_und (kx_T K) (fun j => kx_wy F1 q (K j) s tt) (fun j => K j 6)) i))), some (.int ((nI i) + 1)), some (.int (nI u)), some (.int 1)]) (st' := []) (h' := kv_wd g w) rfl ?_
                have hU : ¬ (kx_und (kx_T K) (fun j => kx_wy F1 q (K j) s tt) (fun j => K j 6)) i = true := fun z => h79 (tI.mpr ((kx_und_u (T := kx_T K) (W := fun j => kx_wy F1 q (K j) s tt) (U := fun j => K j 6) hi8 hu h6).mp z).1)
                have hh := ih (i + 1) S (some (.int (nI u))) (some (.int 1)) (by omega) hS (kx_Sb_n hSb hU)
                rw [show kx_mk (kx_und (kx_T K) (fun j => kx_wy F1 q (K j) s tt) (fun j => K j 6)) (i + 1) = kx_mk (kx_und (kx_T K) (fun j => kx_wy F1 q (K j) s tt) (fun j => K j 6)) i from if_neg hU, nI_succ] at hh
                exact hh
              · refine kx_st 0 (pc' := 82) (L' := [some (.ref 43), some (.ref 1), some (.int (nI tt)), some (.long (kx_lf (fun a b => tt.testBit a && tt.testBit b) 36)), none, some (.int (nI S)), some (.int (nI (kx_mk (kx_und (kx_T K) (fun j => kx_wy F1 q (K j) s tt) (fun j => K j 6)) i))), some (.int (nI i)), some (.int (nI u)), some (.int 1)]) (st' := []) (h' := kv_wd g w) rfl ?_
                refine kx_st 1 (pc' := 84) (L' := [some (.ref 43), some (.ref 1), some (.int (nI tt)), some (.long (kx_lf (fun a b => tt.testBit a && tt.testBit b) 36)), none, some (.int (nI S)), some (.int (nI (kx_mk (kx_und (kx_T K) (fun j => kx_wy F1 q (K j) s tt) (fun j => K j 6)) i))), some (.int (nI i)), some (.int (nI u)), some (.int 1)]) (st' := [.int 1]) (h' := kv_wd g w) rfl ?_
                refine kx_st 1 (pc' := 121) (L' := [some (.ref 43), some (.ref 1), some (.int (nI tt)), some (.long (kx_lf (fun a b => tt.testBit a && tt.testBit b) 36)), none, some (.int (nI S)), some (.int (nI (kx_mk (kx_und (kx_T K) (fun j => kx_wy F1 q (K j) s tt) (fun j => K j 6)) i))), some (.int (nI i)), some (.int (nI u)), some (.int 1)]) (st' := []) (h' := kv_wd g w) rfl ?_
                refine kx_st 2 (pc' := 17) (L' := [some (.ref 43), some (.ref 1), some (.int (nI tt)), some (.long (kx_lf (fun a b => tt.testBit a && tt.testBit b) 36)), none, some (.int (nI S)), some (.int (nI (kx_mk (kx_und (kx_T K) (fun j => kx_wy F1 q (K j) s tt) (fun j => K j 6)) i))), some (.int ((nI i) + 1)), some (.int (nI u)), some (.int 1)]) (st' := []) (h' := kv_wd g w) rfl ?_
                have hU : ¬ (kx_und (kx_T K) (fun j => kx_wy F1 q (K j) s tt) (fun j => K j 6)) i = true := fun z => tU.mp (Classical.not_not.mp h61) ((kx_und_u (T := kx_T K) (W := fun j => kx_wy F1 q (K j) s tt) (U := fun j => K j 6) hi8 hu h6).mp z).2.2
                have hh := ih (i + 1) S (some (.int (nI u))) (some (.int 1)) (by omega) hS (kx_Sb_n hSb hU)
                rw [show kx_mk (kx_und (kx_T K) (fun j => kx_wy F1 q (K j) s tt) (fun j => K j 6)) (i + 1) = kx_mk (kx_und (kx_T K) (fun j => kx_wy F1 q (K j) s tt) (fun j => K j 6)) i from if_neg hU, nI_succ] at hh
                exact hh
set_option maxRecDepth 100000 in
theorem ev_openWith {E : kv_V} {d : Nat} {g : kv_S} {w : kv_W} {F0 F1 : kx_FF} {s t m : Nat} {K : Nat → Nat → Int32} (hX : kx_X F0 F1 s t m K g) (hq5 : ∀ j, j < 8 → w.2 5 j = some (14 + j)) (hKB : ∀ k, k < m → kx_K s k (K k) (K k)) (q : kx_Q) (tt : Nat) (h64 : tt < 64) (hwl : ∀ j, j < m → w.1 j = kx_lf (fun a b => decide (a < s) && decide (kx_lsn F1 q (K j) a b ∨ kx_lsn F1 q (K j) b a)) 36) (hw : kv_qok w) : kv_ev E (d + 2) 69 [.ref 43, .ref 1, .int (nI tt)] (kv_wd g w) (some (.int (nI (kx_mk (kx_und (kx_T K) (fun j => kx_wy F1 q (K j) s tt) (fun j => K j 6)) m)))) (kv_wd g w) := by
  have m8 := hX.1.2.2.2
  have eT : kx_or (kx_td (fun a => g (14 + a) 7)) m = nI (kx_mk (kx_T K) m) := by
    rw [kx_tied_mk m m8 (fun j hj => by rw [hX.2.2.2.2 j hj 7 (by omega)]; exact kx_K_tied (hKB j hj))]
    have : ∀ n, n ≤ m → kx_mk (fun j => decide (g (14 + j) 7 = 1)) n = kx_mk (kx_T K) n := by
      intro n
      induction n with
      | zero => intro _; rfl
      | succ n ih =>
        intro hn
        have e : decide (g (14 + n) 7 = 1) = kx_T K n := by unfold kx_T; rw [hX.2.2.2.2 n (by omega) 7 (by omega)]
        show (if decide (g (14 + n) 7 = 1) = true then _ else _) = if kx_T K n = true then _ else _
        rw [e, ih (by omega)]
    rw [this m (Nat.le_refl m)]
  refine kx_ev (d := d + 1) (by decide) (Nat.le_of_ble_eq_true rfl) ?_
  refine kx_st 0 (pc' := 0) (L' := [some (.ref 43), some (.ref 1), some (.int (nI tt)), none, none, none, none, none, none, none]) (st' := []) (h' := kv_wd g w) rfl ?_
  refine kx_st 1 (pc' := 1) (L' := [some (.ref 43), some (.ref 1), some (.int (nI tt)), none, none, none, none, none, none, none]) (st' := [.int (nI tt)]) (h' := kv_wd g w) rfl ?_
  refine kx_call (z := 68) (as := [.int (nI tt)]) (rest := []) (v := some (.long (kx_lf (fun a b => tt.testBit a && tt.testBit b) 36))) (h1 := kv_wd g w) rfl (ev_pairsWithin (d := d) tt h64) ?_
  refine kx_st 0 (pc' := 4) (L' := [some (.ref 43), some (.ref 1), some (.int (nI tt)), none, none, none, none, none, none, none]) (st' := [.long (kx_lf (fun a b => tt.testBit a && tt.testBit b) 36)]) (h' := kv_wd g w) rfl ?_
  refine kx_st 2 (pc' := 6) (L' := [some (.ref 43), some (.ref 1), some (.int (nI tt)), some (.long (kx_lf (fun a b => tt.testBit a && tt.testBit b) 36)), none, none, none, none, none, none]) (st' := [.ref 1]) (h' := kv_wd g w) rfl ?_
  refine kx_call (z := 21) (as := [.ref 1]) (rest := []) (v := some (.int (nI (kx_mk (kx_T K) m)))) (h1 := kv_wd g w) rfl (by have z := ev_tiedSet (E := E) (d := d) (g := g) (w := w) hw m m8 hX.2.1.2.2; rw [eT] at z; exact z) ?_
  refine kx_st 0 (pc' := 9) (L' := [some (.ref 43), some (.ref 1), some (.int (nI tt)), some (.long (kx_lf (fun a b => tt.testBit a && tt.testBit b) 36)), none, none, none, none, none, none]) (st' := [.int (nI (kx_mk (kx_T K) m))]) (h' := kv_wd g w) rfl ?_
  refine kx_st 5 (pc' := 17) (L' := [some (.ref 43), some (.ref 1), some (.int (nI tt)), some (.long (kx_lf (fun a b => tt.testBit a && tt.testBit b) 36)), none, some (.int (nI (kx_mk (kx_T K) m))), some (.int 0), some (.int 0), none, none]) (st' := []) (h' := kv_wd g w) rfl ?_
  exact lp_openWith (d := d + 1) hX hq5 hKB q tt h64 hwl ⟨rfl, rfl⟩ m 0 (kx_mk (kx_T K) m) none none (by omega) (kx_256 (kx_mk_lt _ m) m8) (fun j hj => by rw [kx_mk_bit]; simp)
def kx_KS (K : Nat → Nat → Int32) (S : Nat → Bool) : Nat → Nat → Int32 := fun k c => if c = 7 then (if kx_T K k = true ∧ ¬ S k = true then 1 else 0) else K k c
theorem kx_KS_K {K : Nat → Nat → Int32} {S : Nat → Bool} {s k : Nat} (h : kx_K s k (K k) (K k)) : kx_K s k (kx_KS K S k) (kx_KS K S k) := by
  obtain ⟨-, q2, q3, q4, q5, q6, q7, q8, q9⟩ := h
  refine ⟨fun _ _ => rfl, q2, q3, q4, q5, q6, q7, ?_, q9⟩
  show (if kx_T K k = true ∧ ¬ S k = true then (1 : Int32) else 0) = 0 ∨ (if kx_T K k = true ∧ ¬ S k = true then (1 : Int32) else 0) = 1
  split
  · exact Or.inr rfl
  · exact Or.inl rfl
theorem kx_KS_7 {K : Nat → Nat → Int32} {S : Nat → Bool} {k : Nat} : kx_KS K S k 7 = 1 ↔ kx_T K k = true ∧ ¬ S k = true := by
  show (if kx_T K k = true ∧ ¬ S k = true then (1 : Int32) else 0) = 1 ↔ _
  by_cases h : kx_T K k = true ∧ ¬ S k = true
  · rw [if_pos h]; exact ⟨fun _ => h, fun _ => rfl⟩
  · rw [if_neg h]; exact ⟨fun z => absurd z (by decide), fun z => absurd z h⟩
theorem kx_KS_70 {K : Nat → Nat → Int32} {S : Nat → Bool} {k : Nat} : kx_KS K S k 7 = 0 ↔ ¬ (kx_T K k = true ∧ ¬ S k = true) := by
  show (if kx_T K k = true ∧ ¬ S k = true then (1 : Int32) else 0) = 0 ↔ _
  by_cases h : kx_T K k = true ∧ ¬ S k = true
  · rw [if_pos h]; exact ⟨fun z => absurd z (by decide), fun z => absurd h z⟩
  · rw [if_neg h]; exact ⟨fun _ => h, fun _ => rfl⟩
theorem kx_M_K {F0 F1 : kx_FF} {s t m : Nat} {K K' : Nat → Nat → Int32} {r : Nat → Int32} (e : ∀ k, k < m → ∀ c, c < 9 → K' k c = K k c) (h : kx_M F0 F1 s t m K r) : kx_M F0 F1 s t m K' r := by
  obtain ⟨h0, h1, h2, h3, h4⟩ := h
  exact ⟨h0, h1, h2, h3, fun k hk c hc => (h4 k hk c hc).trans (e k hk c hc).symm⟩
theorem kx_KS_0 {K : Nat → Nat → Int32} {s k : Nat} (h : kx_K s k (K k) (K k)) : ∀ c, c < 9 → kx_KS K (fun _ => false) k c = K k c := by
  intro c hc
  by_cases h7 : c = 7
  · subst h7
    rcases kx_K_tied h with z | z
    · rw [z]; exact kx_KS_70.mpr (fun y => by have := of_decide_eq_true y.1; rw [z] at this; exact absurd this (by decide))
    · rw [z]; exact kx_KS_7.mpr ⟨decide_eq_true z, by decide⟩
  · exact if_neg h7
def kx_ct (p : Nat → Bool) : Nat → Nat
  | 0 => 0
  | n + 1 => kx_ct p n + (if p n = true then 1 else 0)
theorem kx_ct_cg {p p' : Nat → Bool} : ∀ n, (∀ j, j < n → p j = p' j) → kx_ct p n = kx_ct p' n
  | 0, _ => rfl
  | n + 1, h => by unfold kx_ct; rw [kx_ct_cg n (fun j hj => h j (by omega)), h n (by omega)]
theorem kx_ct_d {p p' : Nat → Bool} {k : Nat} (hk : p k = true) (hk' : p' k = false) (h : ∀ j, j ≠ k → p' j = p j) : ∀ n, k < n → kx_ct p' n + 1 = kx_ct p n
  | 0, h0 => by omega
  | n + 1, hn => by
    unfold kx_ct
    by_cases hkn : k = n
    · subst hkn
      rw [kx_ct_cg k (p := p') (p' := p) (fun j hj => h j (by omega)), hk, hk']
      simp
    · rw [← kx_ct_d hk hk' h n (by omega), h n (fun z => hkn z.symm)]; omega
/-- one more is undone -/
theorem kx_mk_u {S : Nat → Bool} {k : Nat} : ∀ n, k < n → ¬ S k = true → kx_mk (fun j => S j || j == k) n = kx_mk S n ||| 2 ^ k := by
  intro n hk hS
  apply Nat.eq_of_testBit_eq
  intro j
  rw [Nat.testBit_or, kx_mk_bit, kx_mk_bit, Nat.testBit_two_pow]
  by_cases hj : j = k
  · subst hj; simp [hk]
  · have e1 : decide (k = j) = false := decide_eq_false (fun z => hj z.symm)
    have e2 : (j == k) = false := by simpa using hj
    rw [e1, e2]; simp
theorem kx_mk_e {S UN : Nat → Bool} {m : Nat} (m8 : m ≤ 8) (h : ∀ j, j < m → (S j = true ↔ UN j = true)) (hm : ∀ j, m ≤ j → S j = false) : kx_mk S 8 = kx_mk UN m := by
  apply Nat.eq_of_testBit_eq
  intro j
  rw [kx_mk_bit, kx_mk_bit]
  by_cases hj : j < m
  · rw [decide_eq_true (show j < 8 by omega), decide_eq_true hj]
    have := h j hj
    cases hS : S j <;> cases hU : UN j <;> simp_all
  · rw [hm j (by omega), decide_eq_false hj]; simp
set_option maxRecDepth 100000 in
theorem lp_undoes {E : kv_V} {d : Nat} {w : kv_W} {F0 F1 : kx_FF} {s m tt : Nat} {K : Nat → Nat → Int32} (hKB : ∀ k, k < m → kx_K s k (K k) (K k)) (q : kx_Q) (g : kv_S) (m8 : m ≤ 8) (s6 : s ≤ 6) {P : Option Value → kv_H → Prop} (hP : ∀ g1 : kv_S, (∀ b, b ≠ 65 → b ≠ 66 → g1 b = g b) → (∀ z, (z < 7 ∨ 14 < z) → g1 65 z = g 65 z) → P (some (.int (nI (kx_mk (kx_und (kx_T K) (fun j => kx_wy F1 q (K j) s tt) (fun j => K j 6)) m)))) (kv_wd g1 w)) : ∀ (fl k : Nat) (Sx : Nat → Bool) (g1 : kv_S) (x3 : Option Value), 9 * kx_ct (fun j => kx_T K j && !Sx j) m + (m - k) < fl → k ≤ m → kx_M F0 F1 s tt m (kx_KS K Sx) (g1 66) → kx_hmq (g1 66) q → (∀ b, b ≠ 65 → b ≠ 66 → g1 b = g b) → (∀ z, (z < 7 ∨ 14 < z) → g1 65 z = g 65 z) → (∀ j, j < m → Sx j = true → (kx_und (kx_T K) (fun j => kx_wy F1 q (K j) s tt) (fun j => K j 6)) j = true) → (∀ j, m ≤ j → Sx j = false) → (∀ j, j < k → ¬ (kx_T K j = true ∧ ¬ Sx j = true ∧ kx_fr (kx_KS K Sx) j ∧ kx_wy F1 q (K j) s tt = true)) → kx_V E (d + 102) 187 4 [some (.ref 65), some (.int (nI (kx_mk Sx 8))), some (.int (nI k)), x3] [] (kv_wd g1 w) P := by
  intro fl
  induction fl with
  | zero => intro k Sx g1 x3 h; omega
  | succ fl ih =>
    intro k Sx g1 x3 hfl hkm hM hq r1 r2 hS1 hS2 hlow
    by_cases hk : k = m
    · refine kx_st 4 (pc' := 10) (L' := [some (.ref 65), some (.int (nI (kx_mk Sx 8))), some (.int (nI k)), x3]) (st' := [.int 2, .ref 66, .int (nI k)]) (h' := kv_wd g1 w) rfl ?_
      refine kx_ia (k := 2) rfl rfl (by decide) rfl (by decide) (by decide) ?_
      refine kx_bi (t := 80) rfl rfl (fun (h11 : g1 66 2 ≤ nI k) => ?_) (fun (h11 : ¬ (g1 66 2 ≤ nI k)) => ?_)
      · refine kx_st 1 (pc' := 81) (L' := [some (.ref 65), some (.int (nI (kx_mk Sx 8))), some (.int (nI k)), x3]) (st' := [.int (nI (kx_mk Sx 8))]) (h' := kv_wd g1 w) rfl ?_
        refine kx_ret (v := some (.int (nI (kx_mk Sx 8)))) rfl ?_
        rw [kx_mk_e m8 (fun j hj => ⟨hS1 j hj, ?_⟩) hS2]
        · exact hP g1 r1 r2
        · have key : ∀ n, ∀ j, j < n → j < m → (kx_und (kx_T K) (fun j => kx_wy F1 q (K j) s tt) (fun j => K j 6)) j = true → Sx j = true := by
            intro n
            induction n with
            | zero => intro j hj; omega
            | succ n ihn =>
              intro j hjn hjm hU
              refine Classical.not_not.mp (fun hns => hlow j (by omega) ?_)
              rcases (hKB j hjm).2.2.2.2.2.2.1 with h6 | ⟨u, hu, h6⟩
              · have z := (kx_und_n (T := kx_T K) (W := fun j => kx_wy F1 q (K j) s tt) (U := fun j => K j 6) (by omega) h6).mp hU
                exact ⟨z.1, hns, kx_fr_n h6, z.2⟩
              · have z := (kx_und_u (T := kx_T K) (W := fun j => kx_wy F1 q (K j) s tt) (U := fun j => K j 6) (by omega) hu h6).mp hU
                refine ⟨z.1, hns, (kx_fr_u (K := kx_KS K Sx) (show u < 8 by omega) h6).mpr (kx_KS_70.mpr (fun y => y.2 (ihn u (by omega) (by omega) (z.2.2 y.1)))), z.2.1⟩
          exact key (j + 1) j (by omega) hj
      · exact absurd (by rw [hM.2.1.2, hk]; exact nI_le (by omega) (by omega)) h11
    · have hk2 : k < m := by omega
      refine kx_st 4 (pc' := 10) (L' := [some (.ref 65), some (.int (nI (kx_mk Sx 8))), some (.int (nI k)), x3]) (st' := [.int 2, .ref 66, .int (nI k)]) (h' := kv_wd g1 w) rfl ?_
      refine kx_ia (k := 2) rfl rfl (by decide) rfl (by decide) (by decide) ?_
      refine kx_bi (t := 80) rfl rfl (fun (h11 : g1 66 2 ≤ nI k) => ?_) (fun (h11 : ¬ (g1 66 2 ≤ nI k)) => ?_)
      · exact absurd h11 (by rw [hM.2.1.2]; exact nI_ge (a := k) (b := m) (by omega) (by omega))
      · refine kx_st 0 (pc' := 14) (L' := [some (.ref 65), some (.int (nI (kx_mk Sx 8))), some (.int (nI k)), x3]) (st' := []) (h' := kv_wd g1 w) rfl ?_
        refine kx_st 3 (pc' := 18) (L' := [some (.ref 65), some (.int (nI (kx_mk Sx 8))), some (.int (nI k)), x3]) (st' := [.int 7, .int (nI k), .ref 65]) (h' := kv_wd g1 w) rfl ?_
        refine kx_call (z := 136) (as := [.ref 65, .int (nI k), .int 7]) (rest := []) (v := some (.int (kx_KS K Sx k 7))) (h1 := kv_wd g1 w) rfl (by have z := ev_its (E := E) (d := d + 101) (g := g1) (w := w) k 7 (by omega); rw [hM.2.2.2.2 k hk2 7 (by omega)] at z; exact z) ?_
        refine kx_st 0 (pc' := 21) (L' := [some (.ref 65), some (.int (nI (kx_mk Sx 8))), some (.int (nI k)), x3]) (st' := [.int (kx_KS K Sx k 7)]) (h' := kv_wd g1 w) rfl ?_
        refine kx_st 1 (pc' := 22) (L' := [some (.ref 65), some (.int (nI (kx_mk Sx 8))), some (.int (nI k)), x3]) (st' := [.int 1, .int (kx_KS K Sx k 7)]) (h' := kv_wd g1 w) rfl ?_
        refine kx_bi (t := 45) rfl rfl (fun (h22 : ¬ kx_KS K Sx k 7 = 1) => ?_) (fun (h22 : ¬ (¬ kx_KS K Sx k 7 = 1)) => ?_)
        · refine kx_st 3 (pc' := 48) (L' := [some (.ref 65), some (.int (nI (kx_mk Sx 8))), some (.int (nI k)), some (.int 0)]) (st' := [.int 0]) (h' := kv_wd g1 w) rfl ?_
          refine kx_st 1 (pc' := 65) (L' := [some (.ref 65), some (.int (nI (kx_mk Sx 8))), some (.int (nI k)), some (.int 0)]) (st' := []) (h' := kv_wd g1 w) rfl ?_
          refine kx_st 1 (pc' := 66) (L' := [some (.ref 65), some (.int (nI (kx_mk Sx 8))), some (.int (nI k)), some (.int 0)]) (st' := [.int 0]) (h' := kv_wd g1 w) rfl ?_
          refine kx_st 1 (pc' := 73) (L' := [some (.ref 65), some (.int (nI (kx_mk Sx 8))), some (.int (nI k)), some (.int 0)]) (st' := []) (h' := kv_wd g1 w) rfl ?_
          refine kx_st 5 (pc' := 4) (L' := [some (.ref 65), some (.int (nI (kx_mk Sx 8))), some (.int ((nI k) + 1)), some (.int 0)]) (st' := []) (h' := kv_wd g1 w) rfl ?_
          rw [← nI_succ]
          refine ih (k + 1) Sx g1 (some (.int 0)) (by omega) (by omega) hM hq r1 r2 hS1 hS2 (fun j hj => ?_)
          by_cases hjk : j = k
          · rw [hjk]; exact fun z => h22 (kx_KS_7.mpr ⟨z.1, z.2.1⟩)
          · exact hlow j (by omega)
        · refine kx_st 0 (pc' := 25) (L' := [some (.ref 65), some (.int (nI (kx_mk Sx 8))), some (.int (nI k)), x3]) (st' := []) (h' := kv_wd g1 w) rfl ?_
          refine kx_st 2 (pc' := 27) (L' := [some (.ref 65), some (.int (nI (kx_mk Sx 8))), some (.int (nI k)), x3]) (st' := [.int (nI k), .ref 65]) (h' := kv_wd g1 w) rfl ?_
          refine kx_call (z := 173) (as := [.ref 65, .int (nI k)]) (rest := []) (v := some (.int (kx_b (kx_fr (kx_KS K Sx) k)))) (h1 := kv_wd g1 w) rfl (ev_isFree (d := d + 100) (g := g1) hM k hk2 (kx_KS_K (hKB k hk2))) ?_
          refine kx_st 0 (pc' := 30) (L' := [some (.ref 65), some (.int (nI (kx_mk Sx 8))), some (.int (nI k)), x3]) (st' := [.int (kx_b (kx_fr (kx_KS K Sx) k))]) (h' := kv_wd g1 w) rfl ?_
          refine kx_be (t := 45) rfl rfl (fun (h30 : ¬ (kx_fr (kx_KS K Sx) k)) => ?_) (fun (h30 : (kx_fr (kx_KS K Sx) k)) => ?_)
          · refine kx_st 3 (pc' := 48) (L' := [some (.ref 65), some (.int (nI (kx_mk Sx 8))), some (.int (nI k)), some (.int 0)]) (st' := [.int 0]) (h' := kv_wd g1 w) rfl ?_
            refine kx_st 1 (pc' := 65) (L' := [some (.ref 65), some (.int (nI (kx_mk Sx 8))), some (.int (nI k)), some (.int 0)]) (st' := []) (h' := kv_wd g1 w) rfl ?_
            refine kx_st 1 (pc' := 66) (L' := [some (.ref 65), some (.int (nI (kx_mk Sx 8))), some (.int (nI k)), some (.int 0)]) (st' := [.int 0]) (h' := kv_wd g1 w) rfl ?_
            refine kx_st 1 (pc' := 73) (L' := [some (.ref 65), some (.int (nI (kx_mk Sx 8))), some (.int (nI k)), some (.int 0)]) (st' := []) (h' := kv_wd g1 w) rfl ?_
            refine kx_st 5 (pc' := 4) (L' := [some (.ref 65), some (.int (nI (kx_mk Sx 8))), some (.int ((nI k) + 1)), some (.int 0)]) (st' := []) (h' := kv_wd g1 w) rfl ?_
            rw [← nI_succ]
            refine ih (k + 1) Sx g1 (some (.int 0)) (by omega) (by omega) hM hq r1 r2 hS1 hS2 (fun j hj => ?_)
            by_cases hjk : j = k
            · rw [hjk]; exact fun z => h30 z.2.2.1
            · exact hlow j (by omega)
          · refine kx_st 0 (pc' := 33) (L' := [some (.ref 65), some (.int (nI (kx_mk Sx 8))), some (.int (nI k)), x3]) (st' := []) (h' := kv_wd g1 w) rfl ?_
            refine kx_st 2 (pc' := 35) (L' := [some (.ref 65), some (.int (nI (kx_mk Sx 8))), some (.int (nI k)), x3]) (st' := [.int (nI k), .ref 65]) (h' := kv_wd g1 w) rfl ?_
            obtain ⟨f35, k35, e35⟩ := ev_mnearest (E := E) (d := d) (g := g1) (w := w) hM q hq k hk2 (kx_KS_K (hKB k hk2))
            refine kx_call (z := 176) (as := [.ref 65, .int (nI k)]) (rest := []) (v := some (.int ((kx_nr F1 tt q (kx_KS K Sx k) s 36).1))) (h1 := kv_wd (kv_uf g1 65 f35) w) rfl e35 ?_
            refine kx_st 0 (pc' := 38) (L' := [some (.ref 65), some (.int (nI (kx_mk Sx 8))), some (.int (nI k)), x3]) (st' := [.int ((kx_nr F1 tt q (kx_KS K Sx k) s 36).1)]) (h' := kv_wd (kv_uf g1 65 f35) w) rfl ?_
            refine kx_bc (t := 45) rfl rfl (fun (h38 : (kx_nr F1 tt q (kx_KS K Sx k) s 36).1 < 0) => ?_) (fun (h38 : ¬ ((kx_nr F1 tt q (kx_KS K Sx k) s 36).1 < 0)) => ?_)
            · refine kx_st 3 (pc' := 48) (L' := [some (.ref 65), some (.int (nI (kx_mk Sx 8))), some (.int (nI k)), some (.int 0)]) (st' := [.int 0]) (h' := kv_wd (kv_uf g1 65 f35) w) rfl ?_
              refine kx_st 1 (pc' := 65) (L' := [some (.ref 65), some (.int (nI (kx_mk Sx 8))), some (.int (nI k)), some (.int 0)]) (st' := []) (h' := kv_wd (kv_uf g1 65 f35) w) rfl ?_
              refine kx_st 1 (pc' := 66) (L' := [some (.ref 65), some (.int (nI (kx_mk Sx 8))), some (.int (nI k)), some (.int 0)]) (st' := [.int 0]) (h' := kv_wd (kv_uf g1 65 f35) w) rfl ?_
              refine kx_st 1 (pc' := 73) (L' := [some (.ref 65), some (.int (nI (kx_mk Sx 8))), some (.int (nI k)), some (.int 0)]) (st' := []) (h' := kv_wd (kv_uf g1 65 f35) w) rfl ?_
              refine kx_st 5 (pc' := 4) (L' := [some (.ref 65), some (.int (nI (kx_mk Sx 8))), some (.int ((nI k) + 1)), some (.int 0)]) (st' := []) (h' := kv_wd (kv_uf g1 65 f35) w) rfl ?_
              rw [← nI_succ]
              refine ih (k + 1) Sx (kv_uf g1 65 f35) (some (.int 0)) (by omega) (by omega) hM hq (fun b b1 b2 => (kv_uf_ne b1).trans (r1 b b1 b2)) (fun z hz => (k35 z hz).trans (r2 z hz)) hS1 hS2 (fun j hj => ?_)
              by_cases hjk : j = k
              · rw [hjk]; exact fun z => Int32.not_lt.mpr ((kx_nr_iff (F1 := F1) (t := tt) (q := q) (K := kx_KS K Sx k) s6).mpr (by obtain ⟨a, b, y1, y2, y3, y4, y5, y6⟩ := (kx_wy_i s6).mp z.2.2.2; exact ⟨a, b, y1, y2, y3, kx_KS_7.mpr ⟨z.1, z.2.1⟩, ⟨y4, y5⟩, y6⟩)) h38
              · exact hlow j (by omega)
            · refine kx_st 0 (pc' := 41) (L' := [some (.ref 65), some (.int (nI (kx_mk Sx 8))), some (.int (nI k)), x3]) (st' := []) (h' := kv_wd (kv_uf g1 65 f35) w) rfl ?_
              refine kx_st 4 (pc' := 48) (L' := [some (.ref 65), some (.int (nI (kx_mk Sx 8))), some (.int (nI k)), some (.int 1)]) (st' := [.int 1]) (h' := kv_wd (kv_uf g1 65 f35) w) rfl ?_
              refine kx_st 1 (pc' := 51) (L' := [some (.ref 65), some (.int (nI (kx_mk Sx 8))), some (.int (nI k)), some (.int 1)]) (st' := []) (h' := kv_wd (kv_uf g1 65 f35) w) rfl ?_
              refine kx_st 4 (pc' := 56) (L' := [some (.ref 65), some (.int (nI (kx_mk Sx 8))), some (.int (nI k)), some (.int 1)]) (st' := [.int 0, .int 7, .int (nI k), .ref 65]) (h' := kv_wd (kv_uf g1 65 f35) w) rfl ?_
              refine kx_call (z := 137) (as := [.ref 65, .int (nI k), .int 7, .int 0]) (rest := []) (v := none) (h1 := kv_wd (kv_up (kv_uf g1 65 f35) 66 (26 + 9 * k + 7) 0) w) rfl (ev_gets (d := d + 101) k 7 (by omega) 0) ?_
              refine kx_st 0 (pc' := 59) (L' := [some (.ref 65), some (.int (nI (kx_mk Sx 8))), some (.int (nI k)), some (.int 1)]) (st' := []) (h' := kv_wd (kv_up (kv_uf g1 65 f35) 66 (26 + 9 * k + 7) 0) w) rfl ?_
              refine kx_st 7 (pc' := 66) (L' := [some (.ref 65), some (.int ((nI (kx_mk Sx 8)) ||| (1 <<< ((nI k) &&& 31)))), some (.int (nI k)), some (.int 1)]) (st' := [.int 1]) (h' := kv_wd (kv_up (kv_uf g1 65 f35) 66 (26 + 9 * k + 7) 0) w) rfl ?_
              refine kx_st 1 (pc' := 69) (L' := [some (.ref 65), some (.int ((nI (kx_mk Sx 8)) ||| (1 <<< ((nI k) &&& 31)))), some (.int (nI k)), some (.int 1)]) (st' := []) (h' := kv_wd (kv_up (kv_uf g1 65 f35) 66 (26 + 9 * k + 7) 0) w) rfl ?_
              refine kx_st 4 (pc' := 4) (L' := [some (.ref 65), some (.int ((nI (kx_mk Sx 8)) ||| (1 <<< ((nI k) &&& 31)))), some (.int 0), some (.int 1)]) (st' := []) (h' := kv_wd (kv_up (kv_uf g1 65 f35) 66 (26 + 9 * k + 7) 0) w) rfl ?_
              have h7 : kx_T K k = true ∧ ¬ Sx k = true := kx_KS_7.mp (Classical.not_not.mp h22)
              have hwy : kx_wy F1 q (K k) s tt = true := by
                obtain ⟨a, b, z1, z2, z3, z4⟩ := (kx_nr_iff (F1 := F1) (t := tt) (q := q) (K := kx_KS K Sx k) s6).mp (Int32.not_lt.mp h38)
                exact (kx_wy_i s6).mpr ⟨a, b, z1, z2, z3, z4.2.1.1, z4.2.1.2, z4.2.2⟩
              have hun : (kx_und (kx_T K) (fun j => kx_wy F1 q (K j) s tt) (fun j => K j 6)) k = true := by
                rcases (hKB k hk2).2.2.2.2.2.2.1 with h6 | ⟨u, hu, h6⟩
                · exact (kx_und_n (T := kx_T K) (W := fun j => kx_wy F1 q (K j) s tt) (U := fun j => K j 6) (by omega) h6).mpr ⟨h7.1, hwy⟩
                · refine (kx_und_u (T := kx_T K) (W := fun j => kx_wy F1 q (K j) s tt) (U := fun j => K j 6) (by omega) hu h6).mpr ⟨h7.1, hwy, fun hTu => ?_⟩
                  have z := kx_KS_70.mp ((kx_fr_u (K := kx_KS K Sx) (show u < 8 by omega) h6).mp h30)
                  exact hS1 u (by omega) (Classical.not_not.mp (fun y => z ⟨hTu, y⟩))
              have hct := kx_ct_d (p := fun j => kx_T K j && !Sx j) (p' := fun j => kx_T K j && !(Sx j || j == k)) (k := k) (by have h72 := h7.2; simp at h72; simp [h7.1, h72]) (by simp) (fun j hj => (show (kx_T K j && !(Sx j || j == k)) = (kx_T K j && !Sx j) by rw [show (j == k) = false by simpa using hj, Bool.or_false])) m hk2
              have hh := ih 0 (fun j => Sx j || j == k) (kv_up (kv_uf g1 65 f35) 66 (26 + 9 * k + 7) 0) (some (.int 1)) (by omega) (by omega) ?_ ?_ (fun b b1 b2 => by rw [kv_up_ne b2, kv_uf_ne b1]; exact r1 b b1 b2) (fun z hz => (k35 z hz).trans (r2 z hz)) (fun j hj hs => ?_) (fun j hj => ?_) (fun j hj => by omega)
              · rw [kx_mk_u 8 (by omega) h7.2, ← kx_orb _ (kx_mk_lt _ 8) k (by omega)] at hh
                exact hh
              · obtain ⟨u0, u1, u2, u3, u4⟩ := hM
                have e66 : ∀ j, j ≠ 26 + 9 * k + 7 → (kv_up (kv_uf g1 65 f35) 66 (26 + 9 * k + 7) 0) 66 j = g1 66 j := fun j hj => kx_upn hj
                refine ⟨u0, ⟨(e66 3 (by omega)).trans u1.1, (e66 2 (by omega)).trans u1.2⟩, fun p hp => (e66 _ (by omega)).trans (u2 p hp), ⟨kx_Lm_cg (e66 6 (by omega)) (fun j hj => e66 _ (by omega)) u3.1, kx_Lm_cg (e66 7 (by omega)) (fun j hj => e66 _ (by omega)) u3.2⟩, fun i hi c hc => ?_⟩
                by_cases hic : i = k ∧ c = 7
                · obtain ⟨rfl, rfl⟩ := hic
                  rw [show (kv_up (kv_uf g1 65 f35) 66 (26 + 9 * i + 7) 0) 66 (26 + 9 * i + 7) = 0 from kx_ups]
                  exact (kx_KS_70.mpr (fun z => z.2 (by simp))).symm
                · rw [e66 _ (by omega), u4 i hi c hc]
                  by_cases h7c : c = 7
                  · have hik : i ≠ k := fun z => hic ⟨z, h7c⟩
                    subst h7c
                    have e2 : (i == k) = false := by simpa using hik
                    show (if kx_T K i = true ∧ ¬ Sx i = true then (1 : Int32) else 0) = if kx_T K i = true ∧ ¬ (Sx i || i == k) = true then (1 : Int32) else 0
                    rw [e2, Bool.or_false]
                  · show (if c = 7 then _ else K i c) = if c = 7 then _ else K i c
                    rw [if_neg h7c, if_neg h7c]
              · have e66 : ∀ j, j < 26 → (kv_up (kv_uf g1 65 f35) 66 (26 + 9 * k + 7) 0) 66 j = g1 66 j := fun j hj => kx_upn (by omega)
                exact ⟨fun p hp => ⟨(e66 _ (by omega)).trans (hq.1 p hp).1, (e66 _ (by omega)).trans (hq.1 p hp).2⟩, (e66 0 (by omega)).trans hq.2⟩
              · by_cases hjk : j = k
                · rw [hjk]; exact hun
                · have e2 : (j == k) = false := by simpa using hjk
                  rw [e2, Bool.or_false] at hs
                  exact hS1 j hj hs
              · have e2 : (j == k) = false := by simp; omega
                rw [hS2 j hj, e2]; rfl
set_option maxRecDepth 100000 in
theorem ev_undoesAll {E : kv_V} {d : Nat} {g : kv_S} {w : kv_W} {F0 F1 : kx_FF} {s m tt : Nat} {K : Nat → Nat → Int32} (hKB : ∀ k, k < m → kx_K s k (K k) (K k)) (hM : kx_M F0 F1 s tt m K (g 66)) (q : kx_Q) (hq : kx_hmq (g 66) q) : ∃ g' : kv_S, kv_ev E (d + 103) 187 [.ref 65] (kv_wd g w) (some (.int (nI (kx_mk (kx_und (kx_T K) (fun j => kx_wy F1 q (K j) s tt) (fun j => K j 6)) m)))) (kv_wd g' w) ∧ (∀ b, b ≠ 65 → b ≠ 66 → g' b = g b) ∧ ∀ z, (z < 7 ∨ 14 < z) → g' 65 z = g 65 z := by
  obtain ⟨v, hf, he, rfl, g', rfl, hh⟩ := kx_evP (E := E) (d := d + 102) (y := 187) (h := kv_wd g w) (as := [.ref 65]) (P := fun v h => v = some (.int (nI (kx_mk (kx_und (kx_T K) (fun j => kx_wy F1 q (K j) s tt) (fun j => K j 6)) m))) ∧ ∃ g' : kv_S, h = kv_wd g' w ∧ (∀ b, b ≠ 65 → b ≠ 66 → g' b = g b) ∧ ∀ z, (z < 7 ∨ 14 < z) → g' 65 z = g 65 z) (by decide) (Nat.le_of_ble_eq_true rfl) (by
    refine kx_st 4 (pc' := 4) (L' := [some (.ref 65), some (.int (nI (kx_mk (fun _ => false) 8))), some (.int (nI 0)), none]) (st' := []) (h' := kv_wd g w) rfl ?_
    exact lp_undoes (d := d) hKB q g hM.1.2.2.2 hM.1.2.1 (fun g1 r1 r2 => ⟨rfl, g1, rfl, r1, r2⟩) _ 0 (fun _ => false) g none (Nat.lt_succ_self _) (by omega) (kx_M_K (fun k hk c hc => kx_KS_0 (hKB k hk) c hc) hM) hq (fun _ _ _ => rfl) (fun _ _ => rfl) (fun j hj z => by cases z) (fun _ _ => rfl) (fun j hj => by omega))
  exact ⟨g', he, hh⟩
