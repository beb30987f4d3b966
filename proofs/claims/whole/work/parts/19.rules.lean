/-! WALKING THE SMALL MACHINE: kx_V, its rules -/
def kx_V (E : kv_V) (d y pc : Nat) (L : kv_L) (st : List Value) (h : kv_H) (P : Option Value → kv_H → Prop) : Prop := ∃ (n : Nat) (r : Option Value) (hf : kv_H), kv_rn E (kv_ev E d) y n pc L st h r hf ∧ P r hf
/-- one instruction, no call, no end -/
noncomputable def kx_1 (E : kv_V) (y pc : Nat) (L : kv_L) (st : List Value) (h : kv_H) : Option (Nat × kv_L × List Value × kv_H) := match kv_at y pc with
  | none => none
  | some (ins, len) => match kv_cl1 (kv_o y) ins with
    | some _ => none
    | none => match kv_re (kv_rt y) ins st with
      | some _ => none
      | none => match kv_op E (kv_o y) ins len pc L st h with
        | some (pc', L', st') => some (pc', L', st', h)
        | none => match kv_hp (kv_o y) (kv_kd y) ins pc st h with
          | some (pc', st', h') => some (pc', L, st', h')
          | none => none
noncomputable def kx_n (E : kv_V) (y : Nat) : Nat → Nat → kv_L → List Value → kv_H → Option (Nat × kv_L × List Value × kv_H)
  | 0, pc, L, st, h => some (pc, L, st, h)
  | n + 1, pc, L, st, h => match kx_1 E y pc L st h with
    | some (pc', L', st', h') => kx_n E y n pc' L' st' h'
    | none => none
/-- a call at hand: its method, arguments, the stack below -/
noncomputable def kx_c (y pc : Nat) (st : List Value) (h : kv_H) : Option (Nat × List Value × List Value) := match kv_at y pc with
  | none => none
  | some (ins, _) => match kv_cl1 (kv_o y) ins with
    | some (k, z, _) => match kv_as k z st h with
      | some (as, rest) => some (z, as, rest)
      | none => none
    | none => none
noncomputable def kx_r (y pc : Nat) (st : List Value) : Option (Option Value) := match kv_at y pc with
  | none => none
  | some (ins, _) => match kv_cl1 (kv_o y) ins with
    | some _ => none
    | none => kv_re (kv_rt y) ins st
section KX
variable {E : kv_V} {d y pc : Nat} {L : kv_L} {st : List Value} {h : kv_H} {P : Option Value → kv_H → Prop}
theorem kx_s1 {pc' : Nat} {L' : kv_L} {st' : List Value} {h' : kv_H} (hs : kx_1 E y pc L st h = some (pc', L', st', h')) (kk : kx_V E d y pc' L' st' h' P) : kx_V E d y pc L st h P := by
  obtain ⟨n, r, hf, hr, hp⟩ := kk
  refine ⟨n + 1, r, hf, ?_, hp⟩
  unfold kx_1 at hs
  unfold kv_rn
  split at hs
  · cases hs
  · rename_i ins len hat
    rw [hat]
    dsimp only
    split at hs
    · cases hs
    · rename_i hcl
      rw [hcl]
      dsimp only
      split at hs
      · cases hs
      · rename_i hre
        rw [hre]
        dsimp only
        split at hs
        · rename_i hop
          cases hs
          rw [hop]
          exact hr
        · rename_i hop
          rw [hop]
          dsimp only
          split at hs
          · rename_i hhp
            cases hs
            rw [hhp]
            exact hr
          · cases hs
theorem kx_st (k : Nat) : ∀ {pc pc' : Nat} {L L' : kv_L} {st st' : List Value} {h h' : kv_H}, kx_n E y k pc L st h = some (pc', L', st', h') → kx_V E d y pc' L' st' h' P → kx_V E d y pc L st h P := by
  induction k with
  | zero => intro pc pc' L L' st st' h h' hs kk; cases hs; exact kk
  | succ k ih =>
    intro pc pc' L L' st st' h h' hs kk
    simp only [kx_n] at hs
    split at hs
    · rename_i h1
      exact kx_s1 h1 (ih hs kk)
    · cases hs
theorem kx_call {z : Nat} {as rest : List Value} {v : Option Value} {h1 : kv_H} (hc : kx_c y pc st h = some (z, as, rest)) (hev : kv_ev E d z as h v h1) (kk : kx_V E d y (pc + 3) L (v.toList ++ rest) h1 P) : kx_V E d y pc L st h P := by
  obtain ⟨n, r, hf, hr, hp⟩ := kk
  refine ⟨n + 1, r, hf, ?_, hp⟩
  unfold kx_c at hc
  unfold kv_rn
  split at hc
  · cases hc
  · rename_i ins len hat
    rw [hat]
    dsimp only
    split at hc
    · rename_i hcl
      rw [hcl]
      dsimp only
      split at hc
      · rename_i has
        cases hc
        rw [has]
        exact ⟨v, h1, hev, hr⟩
      · cases hc
    · cases hc
theorem kx_ret {v : Option Value} (hr : kx_r y pc st = some v) (hp : P v h) : kx_V E d y pc L st h P := by
  refine ⟨1, v, h, ?_, hp⟩
  unfold kx_r at hr
  unfold kv_rn
  split at hr
  · cases hr
  · rename_i ins len hat
    rw [hat]
    dsimp only
    split at hr
    · cases hr
    · rename_i hcl
      rw [hcl]
      dsimp only
      rw [hr]
      exact ⟨rfl, rfl⟩
/-- a method's contract out of a walk of its body -/
theorem kx_ev {as : List Value} {r : Option Value} {hf : kv_H} (hy : y < kv_nm) (ha : (kv_ar as).length ≤ kv_maxL y) (kk : kx_V E d y 0 (kv_in as (kv_maxL y)) [] h (fun v h' => v = r ∧ h' = hf)) : kv_ev E (d + 1) y as h r hf := by
  obtain ⟨n, v, h', hr, rfl, rfl⟩ := kk
  exact ⟨hy, ha, n, hr⟩
theorem kx_mono {P' : Option Value → kv_H → Prop} (hP : ∀ v h, P v h → P' v h) (kk : kx_V E d y pc L st h P) : kx_V E d y pc L st h P' := by
  obtain ⟨n, r, hf, hr, hp⟩ := kk
  exact ⟨n, r, hf, hr, hP _ _ hp⟩
-- branches
theorem kx_if {t : Nat} {b : Bool} {L' : kv_L} {st' : List Value} {h' : kv_H} (hs : kx_1 E y pc L st h = some (if b = true then t else pc + 3, L', st', h')) (k1 : b = true → kx_V E d y t L' st' h' P) (k2 : b = false → kx_V E d y (pc + 3) L' st' h' P) : kx_V E d y pc L st h P := by
  refine kx_s1 hs ?_
  cases b with
  | true => exact k1 rfl
  | false => exact k2 rfl
end KX
