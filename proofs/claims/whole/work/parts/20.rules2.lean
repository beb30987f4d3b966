/-! RULES over the world kv_wd g w -/
def kx_P (c : ClassFile.Cond) (x y : Int32) : Prop := match c with
  | .eq => x = y
  | .ne => ¬ x = y
  | .lt => x < y
  | .ge => y ≤ x
  | .gt => y < x
  | .le => x ≤ y
theorem kx_P_ic (c : ClassFile.Cond) (x y : Int32) : kv_ic c x y = true ↔ kx_P c x y := by
  cases c <;> simp [kv_ic, kx_P]
def kx_b (c : Prop) [Decidable c] : Int32 := if c then 1 else 0
theorem kx_b_pos {c : Prop} [Decidable c] (h : c) : kx_b c = 1 := if_pos h
theorem kx_b_neg {c : Prop} [Decidable c] (h : ¬ c) : kx_b c = 0 := if_neg h
theorem kx_b_congr {c c' : Prop} [Decidable c] [Decidable c'] (h : c ↔ c') : kx_b c = kx_b c' := by
  by_cases hc : c
  · rw [kx_b_pos hc, kx_b_pos (h.mp hc)]
  · rw [kx_b_neg hc, kx_b_neg (fun q => hc (h.mpr q))]
theorem kx_b_fit (c : Prop) [Decidable c] : kv_fit .boolean (.int (kx_b c)) = true := by
  by_cases hc : c
  · rw [kx_b_pos hc]; rfl
  · rw [kx_b_neg hc]; rfl
/-- an index: not below 0, within -/
theorem kx_ix {i : Int32} {k n : Nat} (hi : i = nI k) (hk : k < n) (hn : n < 2 ^ 31) : ¬ (i < 0 ∨ n ≤ i.toNatClampNeg) := by
  subst hi
  exact nI_in hk hn
section KY
variable {E : kv_V} {d y pc : Nat} {L : kv_L} {st : List Value} {h : kv_H} {P : Option Value → kv_H → Prop} {g : kv_S} {w : kv_W}
theorem kx_bi {c : ClassFile.Cond} {off : Int} {t : Nat} {x x2 : Int32} (hat : kv_at y pc = some (.if_icmp c off, 3)) (hj : kv_j pc off = some t) (k1 : kx_P c x x2 → kx_V E d y t L st h P) (k2 : ¬ kx_P c x x2 → kx_V E d y (pc + 3) L st h P) : kx_V E d y pc L (.int x2 :: .int x :: st) h P := by
  refine kx_if (b := kv_ic c x x2) (t := t) (L' := L) (st' := st) (h' := h) ?_ (fun q => k1 ((kx_P_ic c x x2).mp q)) (fun q => k2 (fun z => by rw [(kx_P_ic c x x2).mpr z] at q; cases q))
  simp only [kx_1, hat, kv_cl1, kv_re, kv_op, hj, Option.map_some, kv_sw]
theorem kx_bc {c : ClassFile.Cond} {off : Int} {t : Nat} {x : Int32} (hat : kv_at y pc = some (.ifCond c off, 3)) (hj : kv_j pc off = some t) (k1 : kx_P c x 0 → kx_V E d y t L st h P) (k2 : ¬ kx_P c x 0 → kx_V E d y (pc + 3) L st h P) : kx_V E d y pc L (.int x :: st) h P := by
  refine kx_if (b := kv_ic c x 0) (t := t) (L' := L) (st' := st) (h' := h) ?_ (fun q => k1 ((kx_P_ic c x 0).mp q)) (fun q => k2 (fun z => by rw [(kx_P_ic c x 0).mpr z] at q; cases q))
  simp only [kx_1, hat, kv_cl1, kv_re, kv_op, hj, Option.map_some, kv_sw]
theorem kx_be {c : Prop} [Decidable c] {off : Int} {t : Nat} (hat : kv_at y pc = some (.ifCond .eq off, 3)) (hj : kv_j pc off = some t) (k1 : ¬ c → kx_V E d y t L st h P) (k2 : c → kx_V E d y (pc + 3) L st h P) : kx_V E d y pc L (.int (kx_b c) :: st) h P := by
  refine kx_bc hat hj (fun q => k1 (fun z => ?_)) (fun q => ?_)
  · rw [kx_b_pos z] at q; exact absurd (show (1 : Int32) = 0 from q) (by decide)
  · by_cases hc : c
    · exact k2 hc
    · exact absurd (show kx_b c = 0 from kx_b_neg hc) q
theorem kx_bn {c : Prop} [Decidable c] {off : Int} {t : Nat} (hat : kv_at y pc = some (.ifCond .ne off, 3)) (hj : kv_j pc off = some t) (k1 : c → kx_V E d y t L st h P) (k2 : ¬ c → kx_V E d y (pc + 3) L st h P) : kx_V E d y pc L (.int (kx_b c) :: st) h P := by
  refine kx_bc hat hj (fun q => ?_) (fun q => k2 (fun z => ?_))
  · by_cases hc : c
    · exact k1 hc
    · exact absurd (show kx_b c = 0 from kx_b_neg hc) q
  · rw [kx_b_pos z] at q; exact q (show ¬ (1 : Int32) = 0 by decide)
theorem kx_gf {a ci k pp i : Nat} {fs : List Value} {v : Value} (hat : kv_at y pc = some (.getfield i, 3)) (hl : kv_lk kv_fl (kv_o y) i = some (ci, k, pp)) (ha : a < 76) (hc : kv_cr a (g a) w = .inr (ci, fs)) (hv : fs[k]? = some v) (kk : kx_V E d y (pc + 3) L (v :: st) (kv_wd g w) P) : kx_V E d y pc L (.ref a :: st) (kv_wd g w) P := by
  refine kx_s1 (pc' := pc + 3) (L' := L) (st' := v :: st) (h' := kv_wd g w) ?_ kk
  have h1 : kv_fld (kv_wd g w) a (some (ci, k, pp)) = some v := by
    simp only [kv_fld, kv_wd_get ha, hc, if_true]
    exact hv
  simp only [kx_1, hat, kv_cl1, kv_re, kv_op, hl, h1, kv_psh]
theorem kx_pf {a ci k pp i : Nat} {fs : List Value} {x : Int32} (hat : kv_at y pc = some (.putfield i, 3)) (hl : kv_lk kv_fl (kv_o y) i = some (ci, k, pp)) (ha : a < 76) (hc : kv_cr a (g a) w = .inr (ci, fs)) (hk : k < fs.length) (hs : kv_cr a (upd (g a) k x) w = .inr (ci, fs.set k (.int x))) (hfit : kv_fit (kv_ty ci k) (.int x) = true) (hfin : kv_fin ci k = false) (kk : kx_V E d y (pc + 3) L st (kv_wd (kv_up g a k x) w) P) : kx_V E d y pc L (.int x :: .ref a :: st) (kv_wd g w) P := by
  refine kx_s1 (pc' := pc + 3) (L' := L) (st' := st) (h' := kv_wd (kv_up g a k x) w) ?_ kk
  simp only [kx_1, hat, kv_cl1, kv_re, kv_op, kv_hp, hl, kv_wd_get ha, hc]
  rw [if_pos ⟨trivial, hk, hfit, fun q => by rw [hfin] at q; cases q⟩]
  rw [kv_up_uf, kv_wd_uf ha hs]
theorem kx_ia {a k n : Nat} {i : Int32} (hat : kv_at y pc = some (.iaload, 1)) (ha : kv_an0 a = some n) (h75 : a < 76) (hi : i = nI k) (hk : k < n) (hn : n < 2 ^ 31) (kk : kx_V E d y (pc + 1) L (.int (g a k) :: st) (kv_wd g w) P) : kx_V E d y pc L (.int i :: .ref a :: st) (kv_wd g w) P := by
  refine kx_s1 (pc' := pc + 1) (L' := L) (st' := .int (g a k) :: st) (h' := kv_wd g w) ?_ kk
  have h1 : kv_rd E (kv_wd g w) 0 a i = some (.int (g a k)) := by
    simp only [kv_rd, kv_wd_get h75, kv_an0_s ha h75]
    rw [if_neg (kx_ix hi hk hn), hi, nI_clamp (by omega)]
    rfl
  simp only [kx_1, hat, kv_cl1, kv_re, kv_op, h1, kv_psh]
theorem kx_iE {a k n : Nat} {i : Int32} {f : Nat → Int32} (hat : kv_at y pc = some (.iaload, 1)) (ha : E a = some (0, n, f)) (h75 : 76 ≤ a) (hi : i = nI k) (hk : k < n) (hn : n < 2 ^ 31) (kk : kx_V E d y (pc + 1) L (.int (f k) :: st) (kv_wd g w) P) : kx_V E d y pc L (.int i :: .ref a :: st) (kv_wd g w) P := by
  refine kx_s1 (pc' := pc + 1) (L' := L) (st' := .int (f k) :: st) (h' := kv_wd g w) ?_ kk
  have hnone : (kv_wd g w)[a]? = none := List.getElem?_eq_none (show (kv_wd g w).length ≤ a from h75)
  have h1 : kv_rd E (kv_wd g w) 0 a i = some (.int (f k)) := by
    simp only [kv_rd, hnone, ha]
    rw [if_neg (kx_ix hi hk hn), hi, nI_clamp (by omega)]
    rfl
  simp only [kx_1, hat, kv_cl1, kv_re, kv_op, h1, kv_psh]
theorem kx_cE {a k n : Nat} {i : Int32} {f : Nat → Int32} (hat : kv_at y pc = some (.caload, 1)) (ha : E a = some (1, n, f)) (h75 : 76 ≤ a) (hi : i = nI k) (hk : k < n) (hn : n < 2 ^ 31) (kk : kx_V E d y (pc + 1) L (.int (f k) :: st) (kv_wd g w) P) : kx_V E d y pc L (.int i :: .ref a :: st) (kv_wd g w) P := by
  refine kx_s1 (pc' := pc + 1) (L' := L) (st' := .int (f k) :: st) (h' := kv_wd g w) ?_ kk
  have hnone : (kv_wd g w)[a]? = none := List.getElem?_eq_none (show (kv_wd g w).length ≤ a from h75)
  have h1 : kv_rd E (kv_wd g w) 1 a i = some (.int (f k)) := by
    simp only [kv_rd, hnone, ha]
    rw [if_neg (kx_ix hi hk hn), hi, nI_clamp (by omega)]
    rfl
  simp only [kx_1, hat, kv_cl1, kv_re, kv_op, h1, kv_psh]
theorem kx_is {a k n : Nat} {i x : Int32} (hat : kv_at y pc = some (.iastore, 1)) (ha : kv_an0 a = some n) (h75 : a < 76) (hi : i = nI k) (hk : k < n) (hn : n < 2 ^ 31) (kk : kx_V E d y (pc + 1) L st (kv_wd (kv_up g a k x) w) P) : kx_V E d y pc L (.int x :: .int i :: .ref a :: st) (kv_wd g w) P := by
  refine kx_s1 (pc' := pc + 1) (L' := L) (st' := st) (h' := kv_wd (kv_up g a k x) w) ?_ kk
  simp only [kx_1, hat, kv_cl1, kv_re, kv_op, kv_hp, kv_wd_get h75, kv_an0_s ha h75]
  rw [if_neg (kx_ix hi hk hn), hi, nI_clamp (by omega)]
  rw [kv_up_uf, kv_wd_uf h75 (kv_an0_s ha h75 _ _)]
theorem kx_la {k : Nat} {i : Int32} (hat : kv_at y pc = some (.laload, 1)) (hi : i = nI k) (hk : k < 8) (kk : kx_V E d y (pc + 1) L (.long (w.1 k) :: st) (kv_wd g w) P) : kx_V E d y pc L (.int i :: .ref 47 :: st) (kv_wd g w) P := by
  refine kx_s1 (pc' := pc + 1) (L' := L) (st' := .long (w.1 k) :: st) (h' := kv_wd g w) ?_ kk
  have h1 : kv_rdl (kv_wd g w) 47 i = some (.long (w.1 k)) := by
    simp only [kv_rdl, kv_wd_get (show 47 < 76 by decide), kv_cr]
    rw [if_neg (kx_ix hi hk (by decide)), hi, nI_clamp (by omega)]
  simp only [kx_1, hat, kv_cl1, kv_re, kv_op, h1, kv_psh]
theorem kx_ls {k : Nat} {i : Int32} {x : Int64} (hat : kv_at y pc = some (.lastore, 1)) (hi : i = nI k) (hk : k < 8) (kk : kx_V E d y (pc + 1) L st (kv_wd g (vp_updL w.1 k x, w.2)) P) : kx_V E d y pc L (.long x :: .int i :: .ref 47 :: st) (kv_wd g w) P := by
  refine kx_s1 (pc' := pc + 1) (L' := L) (st' := st) (h' := kv_wd g (vp_updL w.1 k x, w.2)) ?_ kk
  simp only [kx_1, hat, kv_cl1, kv_re, kv_op, kv_hp, kv_wd_get (show 47 < 76 by decide), kv_cr]
  rw [if_neg (kx_ix hi hk (by decide)), hi, nI_clamp (by omega)]
  rfl
theorem kx_aa {a t n k b : Nat} {i : Int32} (hat : kv_at y pc = some (.aaload, 1)) (ha : kv_cr a (g a) w = .inl (t, n, .inr (.inr (.inr (.inr (w.2 a)))))) (h75 : a < 76) (ht : t = 2 ∨ t = 3) (hi : i = nI k) (hk : k < n) (hn : n < 2 ^ 31) (hq : w.2 a k = some b) (kk : kx_V E d y (pc + 1) L (.ref b :: st) (kv_wd g w) P) : kx_V E d y pc L (.int i :: .ref a :: st) (kv_wd g w) P := by
  refine kx_s1 (pc' := pc + 1) (L' := L) (st' := .ref b :: st) (h' := kv_wd g w) ?_ kk
  have h1 : kv_rda (kv_wd g w) a i = some (.ref b) := by
    simp only [kv_rda, kv_wd_get h75, ha]
    rw [if_neg (kx_ix hi hk hn), hi, nI_clamp (by omega), if_pos ht, hq]
    rfl
  simp only [kx_1, hat, kv_cl1, kv_re, kv_op, h1, kv_psh]
theorem kx_dv {x z : Int32} (hat : kv_at y pc = some (.idiv, 1)) (hz : ¬ z = 0) (kk : kx_V E d y (pc + 1) L (.int (x / z) :: st) h P) : kx_V E d y pc L (.int z :: .int x :: st) h P := by
  refine kx_s1 (pc' := pc + 1) (L' := L) (st' := .int (x / z) :: st) (h' := h) ?_ kk
  simp only [kx_1, hat, kv_cl1, kv_re, kv_op, if_neg hz]
theorem kx_rm {x z : Int32} (hat : kv_at y pc = some (.irem, 1)) (hz : ¬ z = 0) (kk : kx_V E d y (pc + 1) L (.int (x % z) :: st) h P) : kx_V E d y pc L (.int z :: .int x :: st) h P := by
  refine kx_s1 (pc' := pc + 1) (L' := L) (st' := .int (x % z) :: st) (h' := h) ?_ kk
  simp only [kx_1, hat, kv_cl1, kv_re, kv_op, if_neg hz]
end KY
