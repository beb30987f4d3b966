/-! CALLS, FRAMES: the real machine follows the small one -/
theorem kv_rn_mono {E : kv_V} {C : Nat → List Value → kv_H → Option Value → kv_H → Prop} {y : Nat} (hC : ∀ z as h v h1, C z as h v h1 → h.length ≤ h1.length ∧ kv_sz h ≤ kv_sz h1 ∧ (h.length ≤ 1000 → h1.length ≤ 1000)) : ∀ (n pc : Nat) (L : kv_L) (st : List Value) (h : kv_H) (r : Option Value) (hf : kv_H), kv_rn E C y n pc L st h r hf → h.length ≤ hf.length ∧ kv_sz h ≤ kv_sz hf ∧ (h.length ≤ 1000 → hf.length ≤ 1000) := by
  intro n
  induction n with
  | zero => intro pc L st h r hf hr; exact absurd hr (by simp [kv_rn])
  | succ n ih =>
    intro pc L st h r hf hr
    simp only [kv_rn] at hr
    split at hr
    · exact absurd hr (by simp)
    · split at hr
      · split at hr
        · obtain ⟨v, h1, hc, hr⟩ := hr
          obtain ⟨a1, a2, a3⟩ := hC _ _ _ _ _ hc
          obtain ⟨b1, b2, b3⟩ := ih _ _ _ _ _ _ hr
          exact ⟨Nat.le_trans a1 b1, Nat.le_trans a2 b2, fun q => b3 (a3 q)⟩
        · exact absurd hr (by simp)
      · split at hr
        · obtain ⟨-, rfl⟩ := hr
          exact ⟨Nat.le_refl _, Nat.le_refl _, id⟩
        · split at hr
          · exact ih _ _ _ _ _ _ hr
          · split at hr
            · rename_i hh
              obtain ⟨a1, a2, a3⟩ := kv_hp_mono hh
              obtain ⟨b1, b2, b3⟩ := ih _ _ _ _ _ _ hr
              exact ⟨Nat.le_trans a1 b1, Nat.le_trans a2 b2, fun q => b3 (a3 q)⟩
            · exact absurd hr (by simp)
theorem kv_ev_mono {E : kv_V} : ∀ (d y : Nat) (as : List Value) (h : kv_H) (r : Option Value) (hf : kv_H), kv_ev E d y as h r hf → h.length ≤ hf.length ∧ kv_sz h ≤ kv_sz hf ∧ (h.length ≤ 1000 → hf.length ≤ 1000) := by
  intro d
  induction d with
  | zero => intro y as h r hf hr; exact absurd hr (by simp [kv_ev])
  | succ d ih =>
    intro y as h r hf hr
    simp only [kv_ev] at hr
    obtain ⟨-, -, n, hr⟩ := hr
    exact kv_rn_mono ih n _ _ _ _ _ _ hr
-- entry
theorem kv_ar_get {ρ : Nat → Nat} : ∀ (as : List Value) (o i : Nat) (v : Value), kv_get (kv_ar as) i = some v → (o + i, kv_mv ρ v) ∈ lv_args o (as.map (kv_mv ρ)) := by
  intro as
  induction as with
  | nil => intro o i v h; simp [kv_ar, kv_get] at h
  | cons w r ih =>
    intro o i v h
    rw [List.map_cons, lv_args, kv_mv_cat]
    have one : w.category = 1 → kv_ar (w :: r) = some w :: kv_ar r → (o + i, kv_mv ρ v) ∈ (o, kv_mv ρ w) :: lv_args (if w.category = 2 then o + 2 else o + 1) (r.map (kv_mv ρ)) := by
      intro hc he
      rw [he] at h
      rw [if_neg (by omega)]
      cases i with
      | zero => simp [kv_get] at h; subst h; exact List.mem_cons_self
      | succ k =>
        have h2 : kv_get (kv_ar r) k = some v := by simpa [kv_get] using h
        have := ih (o + 1) k v h2
        rw [show o + 1 + k = o + (k + 1) by omega] at this
        exact List.mem_cons_of_mem _ this
    cases w with
    | long x =>
      rw [if_pos (show (Value.long x).category = 2 from rfl)]
      simp only [kv_ar] at h
      cases i with
      | zero => simp [kv_get] at h; subst h; exact List.mem_cons_self
      | succ k =>
        cases k with
        | zero => simp [kv_get] at h
        | succ k =>
          have h2 : kv_get (kv_ar r) k = some v := by simpa [kv_get] using h
          have := ih (o + 2) k v h2
          rw [show o + 2 + k = o + (k + 1 + 1) by omega] at this
          exact List.mem_cons_of_mem _ this
    | double x =>
      rw [if_pos (show (Value.double x).category = 2 from rfl)]
      simp only [kv_ar] at h
      cases i with
      | zero => simp [kv_get] at h
      | succ k =>
        cases k with
        | zero => simp [kv_get] at h
        | succ k =>
          have h2 : kv_get (kv_ar r) k = some v := by simpa [kv_get] using h
          have := ih (o + 2) k v h2
          rw [show o + 2 + k = o + (k + 1 + 1) by omega] at this
          exact List.mem_cons_of_mem _ this
    | _ => exact one rfl rfl
theorem kv_ar_len (ρ : Nat → Nat) : ∀ (as : List Value), (lg_sl (as.map (kv_mv ρ))).length = (kv_ar as).length := by
  intro as
  induction as with
  | nil => rfl
  | cons w r ih =>
    have e : lg_sl ((w :: r).map (kv_mv ρ)) = (if w.category = 2 then [Slot.val (kv_mv ρ w), .second] else [Slot.val (kv_mv ρ w)]) ++ lg_sl (r.map (kv_mv ρ)) := by
      simp only [lg_sl, List.map_cons, List.flatMap_cons, kv_mv_cat]
    rw [e, List.length_append, ih]
    cases w <;> simp [kv_ar, Value.category] <;> omega
theorem kv_in_get {as : List Value} {n i : Nat} {v : Value} (h : kv_get (kv_in as n) i = some v) : kv_get (kv_ar as) i = some v := by
  unfold kv_in kv_get at h
  by_cases hl : i < (kv_ar as).length
  · rw [List.getElem?_append_left hl] at h
    exact h
  · rw [List.getElem?_append_right (by omega), List.getElem?_replicate] at h
    split at h <;> cases h
theorem kv_in_len {as : List Value} {n : Nat} (h : (kv_ar as).length ≤ n) : (kv_in as n).length = n := by
  simp [kv_in]
  omega
theorem kv_ar_nd : ∀ (as : List Value), kv_nd (kv_ar as) := by
  intro as
  induction as with
  | nil => intro i v h; simp [kv_ar, kv_get] at h
  | cons w r ih =>
    have one : w.category = 1 → kv_ar (w :: r) = some w :: kv_ar r → kv_nd (kv_ar (w :: r)) := by
      intro hc he i v h hv
      rw [he] at h
      cases i with
      | zero => simp [kv_get] at h; subst h; omega
      | succ k => exact ih k v (by simpa [kv_get] using h) hv
    cases w with
    | long x =>
      intro i v h hv
      simp only [kv_ar] at h
      cases i with
      | zero => simp [kv_get] at h; exact ⟨x, h.symm⟩
      | succ k =>
        cases k with
        | zero => simp [kv_get] at h
        | succ k => exact ih k v (by simpa [kv_get] using h) hv
    | double x =>
      intro i v h hv
      simp only [kv_ar] at h
      cases i with
      | zero => simp [kv_get] at h
      | succ k =>
        cases k with
        | zero => simp [kv_get] at h
        | succ k => exact ih k v (by simpa [kv_get] using h) hv
    | _ => exact one rfl rfl
theorem kv_in_has {ρ : Nat → Nat} {as : List Value} {n : Nat} {ls : Array Slot} (h : lv_has ls n (lv_args 0 (as.map (kv_mv ρ)))) : lv_has ls n (kv_al ρ (kv_in as n)) := by
  refine ⟨h.1, h.2.1, fun q hq => ?_⟩
  obtain ⟨v, hv, he⟩ := kv_al_mem.mp hq
  have := kv_ar_get (ρ := ρ) as 0 q.1 v (kv_in_get hv)
  rw [Nat.zero_add] at this
  have h2 := h.2.2 _ this
  obtain ⟨a, b⟩ := q
  dsimp only at he h2 ⊢
  rw [he]
  exact h2
-- contracts
def kv_pc (E : kv_V) (D : va_G) (ρ : Nat → Nat) (cA : Nat → ClassId) (B : Nat) (as : List Value) (h : kv_H) : Array Value → State → Prop := va_Pc (as.map (kv_mv ρ)) (fun U => va_P D vwCl (kv_w ρ cA h) U.heap ∧ U.heap.size = B + h.length ∧ kv_eo E D ρ cA B U)
def kv_qc (D : va_G) (ρ : Nat → Nat) (cA : Nat → ClassId) (B : Nat) (r : Option Value) (hf : kv_H) : Array Value → State → Outcome → State → Prop := fun _ st o t => o = .returned (r.map (kv_mv ρ)) ∧ va_P D vwCl (kv_w ρ cA hf) t.heap ∧ t.heap.size = B + hf.length ∧ va_F (fun q => B ≤ q) st t
def kv_rm (d : Nat) (h hf : kv_H) : Room := { frames := d, cells := hf.length - h.length, slots := kv_sz hf - kv_sz h, locals := 60 * d }
noncomputable def kv_ws (y : Nat) : List Jvm.Cond := Jvm.Cond.code (kv_m y).1 (kv_m y).2.1 (kv_m y).2.2.1 (kv_m y).2.2.2.1 :: kv_tb
def kv_mt1 (l : Launch) (E : kv_V) (D : va_G) (ρ : Nat → Nat) (cA : Nat → ClassId) (B d y : Nat) (as : List Value) (h : kv_H) (r : Option Value) (hf : kv_H) : Prop := Met l (kv_m y).1 (kv_ws y) (kv_rm d h hf) (kv_pc E D ρ cA B as h) (kv_qc D ρ cA B r hf) (hf.length - h.length) (kv_sz hf - kv_sz h) (fun q => B ≤ q)
theorem kv_blind {E : kv_V} {D : va_G} {ρ : Nat → Nat} {cA : Nat → ClassId} {B : Nat} {as : List Value} {h : kv_H} : FrameBlind (kv_pc E D ρ cA B as h) := by
  intro a U g mk q
  obtain ⟨q0, q1, q2, q3⟩ := q
  exact ⟨q0, q1, q2, q3.same (Vm.Alike.refl U.vm) rfl rfl⟩
theorem kv_good {ws : List Jvm.Cond} (h : ∀ w ∈ ws, w ∈ kv_tb) : GoodIn kv_tb ws := fun w hw => ⟨h w hw, good_of_word (kv_tbg (h w hw))⟩
theorem kv_ml_s {o i k z pp : Nat} (h : kv_lk kv_ml o i = some (k, z, pp)) : (o, i, k, z, pp) ∈ kv_ml := kv_lk_s h
theorem kv_cl_lt {ci : Nat} (h : ci < 10) : ∃ r : vw_C, vwCl[ci]? = some r := ⟨_, List.getElem?_eq_getElem (show ci < vwCl.length from h)⟩
set_option maxRecDepth 100000 in
theorem kv_ml_ok : kv_ml.all (fun q => (q.2.2.1 == 3 || kv_okw q.2.2.2.2 (.methodLink (kv_cn q.1) q.2.1 (kv_m q.2.2.2.1).1)) && decide (q.2.2.2.1 < kv_nm)) = true := by decide +kernel
theorem kv_ml_w : ∀ q ∈ kv_ml, (q.2.2.1 ≠ 3 → Jvm.Cond.methodLink (kv_cn q.1) q.2.1 (kv_m q.2.2.2.1).1 ∈ kv_tb) ∧ q.2.2.2.1 < kv_nm := by
  intro q hq
  have h1 := List.all_eq_true.mp kv_ml_ok q hq
  simp only [Bool.and_eq_true, Bool.or_eq_true, beq_iff_eq, decide_eq_true_eq] at h1
  exact ⟨fun h => kv_okw_in (h1.1.resolve_left h), h1.2⟩
set_option maxRecDepth 100000 in
theorem kv_ml_kok : kv_ml.all (fun q => match q.2.2.1 with
  | 0 => kv_kd q.2.2.2.1 == 0
  | 1 => kv_kd q.2.2.2.1 == 1
  | 2 => kv_kd q.2.2.2.1 == 2
  | 3 => kv_kd q.2.2.2.1 == 2
  | _ => true) = true := by decide +kernel
theorem kv_ml_k : ∀ q ∈ kv_ml, (q.2.2.1 = 0 → kv_kd q.2.2.2.1 = 0) ∧ (q.2.2.1 = 1 → kv_kd q.2.2.2.1 = 1) ∧ (q.2.2.1 = 2 → kv_kd q.2.2.2.1 = 2) ∧ (q.2.2.1 = 3 → kv_kd q.2.2.2.1 = 2) := by
  intro q hq
  have h1 := List.all_eq_true.mp kv_ml_kok q hq
  refine ⟨fun h => ?_, fun h => ?_, fun h => ?_, fun h => ?_⟩ <;> rw [h] at h1 <;> simpa using h1
