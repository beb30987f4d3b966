/-! THE CONSTRUCTORS, by computation -/
noncomputable def kx_xn (E : kv_V) (C : Nat → List Value → kv_H → Option (Option Value × kv_H)) (y : Nat) : Nat → Nat → kv_L → List Value → kv_H → Option (Option Value × kv_H)
  | 0, _, _, _, _ => none
  | n + 1, pc, L, st, h => match kx_r y pc st with
    | some v => some (v, h)
    | none => match kx_c y pc st h with
      | some (z, as, rest) => match C z as h with
        | some (v, h1) => kx_xn E C y n (pc + 3) L (v.toList ++ rest) h1
        | none => none
      | none => match kx_1 E y pc L st h with
        | some (pc', L', st', h') => kx_xn E C y n pc' L' st' h'
        | none => none
noncomputable def kx_xe (E : kv_V) : Nat → Nat → List Value → kv_H → Option (Option Value × kv_H)
  | 0, _, _, _ => none
  | d + 1, y, as, h => if y < kv_nm ∧ (kv_ar as).length ≤ kv_maxL y then kx_xn E (kx_xe E d) y 3000 0 (kv_in as (kv_maxL y)) [] h else none
theorem kx_xn_s {E : kv_V} {d y : Nat} {C : Nat → List Value → kv_H → Option (Option Value × kv_H)} (hC : ∀ z as h v h1, C z as h = some (v, h1) → kv_ev E d z as h v h1) : ∀ (n pc : Nat) (L : kv_L) (st : List Value) (h : kv_H) (v : Option Value) (hf : kv_H), kx_xn E C y n pc L st h = some (v, hf) → kx_V E d y pc L st h (fun r h' => r = v ∧ h' = hf) := by
  intro n
  induction n with
  | zero => intro pc L st h v hf hx; cases hx
  | succ n ih =>
    intro pc L st h v hf hx
    simp only [kx_xn] at hx
    split at hx
    · rename_i hr
      cases hx
      exact kx_ret hr ⟨rfl, rfl⟩
    · split at hx
      · rename_i hc
        split at hx
        · rename_i hcc
          exact kx_call hc (hC _ _ _ _ _ hcc) (ih _ _ _ _ _ _ hx)
        · cases hx
      · split at hx
        · rename_i h1
          exact kx_s1 h1 (ih _ _ _ _ _ _ hx)
        · cases hx
theorem kx_xe_s {E : kv_V} : ∀ (d y : Nat) (as : List Value) (h : kv_H) (v : Option Value) (hf : kv_H), kx_xe E d y as h = some (v, hf) → kv_ev E d y as h v hf := by
  intro d
  induction d with
  | zero => intro y as h v hf hx; cases hx
  | succ d ih =>
    intro y as h v hf hx
    simp only [kx_xe] at hx
    split at hx
    · rename_i hy
      exact kx_ev hy.1 hy.2 (kx_xn_s ih _ _ _ _ _ _ _ hx)
    · cases hx
-- more of what never changes does no harm
theorem kx_op_E {E E' : kv_V} (hE : ∀ a x, E a = some x → E' a = some x) {o : Nat} {ins : Instr} {len pc : Nat} {L : kv_L} {st : List Value} {h : kv_H} {r : kv_R} (hop : kv_op E o ins len pc L st h = some r) : kv_op E' o ins len pc L st h = some r := by
  have hrd : ∀ ty a i v, kv_rd E h ty a i = some v → kv_rd E' h ty a i = some v := by
    intro ty a i v hv
    unfold kv_rd at hv ⊢
    cases hh : h[a]? with
    | some c => rw [hh] at hv; rcases c with ⟨_ | t, n, f | f | f | f | f⟩ | ⟨ci, fs⟩ <;> exact hv
    | none =>
      rw [hh] at hv
      dsimp only at hv ⊢
      cases he : E a with
      | none => rw [he] at hv; cases hv
      | some x => rw [he] at hv; rw [hE a x he]; exact hv
  have hln : ∀ a v, kv_len E h a = some v → kv_len E' h a = some v := by
    intro a v hv
    unfold kv_len at hv ⊢
    cases hh : h[a]? with
    | some c => rw [hh] at hv; rcases c with ⟨t, x⟩ | ⟨ci, fs⟩ <;> exact hv
    | none =>
      rw [hh] at hv
      dsimp only at hv ⊢
      cases he : E a with
      | none => rw [he] at hv; cases hv
      | some x => rw [he] at hv; rw [hE a x he]; exact hv
  have hps : ∀ {n : Nat} {s : List Value} {o1 o2 : Option Value}, (∀ v, o1 = some v → o2 = some v) → kv_psh pc n L s o1 = some r → kv_psh pc n L s o2 = some r := by
    intro n s o1 o2 hv hp
    cases o1 with
    | none => cases hp
    | some v => rw [hv v rfl]; exact hp
  cases ins with
  | iaload =>
    simp only [kv_op] at hop ⊢
    split at hop
    · exact hps (fun v hv => hrd _ _ _ _ hv) hop
    · cases hop
  | caload =>
    simp only [kv_op] at hop ⊢
    split at hop
    · exact hps (fun v hv => hrd _ _ _ _ hv) hop
    · cases hop
  | arraylength =>
    simp only [kv_op] at hop ⊢
    split at hop
    · exact hps (fun v hv => hln _ _ hv) hop
    · cases hop
  | _ => exact hop
theorem kx_rn_E {E E' : kv_V} (hE : ∀ a x, E a = some x → E' a = some x) {C C' : Nat → List Value → kv_H → Option Value → kv_H → Prop} (hC : ∀ z as h v h1, C z as h v h1 → C' z as h v h1) {y : Nat} (hno : ∀ o ins len pc L st h, kv_op E o ins len pc L st h = none → (kv_hp o (kv_kd y) ins pc st h).isSome → kv_op E' o ins len pc L st h = none) : ∀ (n pc : Nat) (L : kv_L) (st : List Value) (h : kv_H) (r : Option Value) (hf : kv_H), kv_rn E C y n pc L st h r hf → kv_rn E' C' y n pc L st h r hf := by
  intro n
  induction n with
  | zero => intro pc L st h r hf hr; exact absurd hr (by simp [kv_rn])
  | succ n ih =>
    intro pc L st h r hf hr
    simp only [kv_rn] at hr ⊢
    split at hr
    · exact absurd hr (by simp)
    · split at hr
      · split at hr
        · obtain ⟨v, h1, hc, hr⟩ := hr
          exact ⟨v, h1, hC _ _ _ _ _ hc, ih _ _ _ _ _ _ hr⟩
        · exact absurd hr (by simp)
      · split at hr
        · exact hr
        · split at hr
          · rename_i hop
            rw [kx_op_E hE hop]
            exact ih _ _ _ _ _ _ hr
          · rename_i hop
            split at hr
            · rename_i hhp
              rw [hno _ _ _ _ _ _ _ hop (by rw [hhp]; rfl)]
              dsimp only
              exact ih _ _ _ _ _ _ hr
            · exact absurd hr (by simp)
theorem kx_no {E E' : kv_V} {o kd : Nat} {ins : Instr} {len pc : Nat} {L : kv_L} {st : List Value} {h : kv_H} (hop : kv_op E o ins len pc L st h = none) (hs : (kv_hp o kd ins pc st h).isSome) : kv_op E' o ins len pc L st h = none := by
  cases ins with
  | iaload => exact absurd hs (by simp [kv_hp])
  | caload => exact absurd hs (by simp [kv_hp])
  | arraylength => exact absurd hs (by simp [kv_hp])
  | _ => exact hop
theorem kx_ev_E {E E' : kv_V} (hE : ∀ a x, E a = some x → E' a = some x) : ∀ (d y : Nat) (as : List Value) (h : kv_H) (r : Option Value) (hf : kv_H), kv_ev E d y as h r hf → kv_ev E' d y as h r hf := by
  intro d
  induction d with
  | zero => intro y as h r hf hr; exact hr
  | succ d ih =>
    intro y as h r hf hr
    obtain ⟨h1, h2, n, hr⟩ := hr
    exact ⟨h1, h2, n, kx_rn_E hE ih (fun _ _ _ _ _ _ _ a b => kx_no a b) n _ _ _ _ _ _ hr⟩
-- reading a world off a heap
def kx_ri : kv_E → Nat → Int32
  | .inl (_, _, .inl f) => f
  | .inr (_, fs) => fun k => match fs[k]? with
    | some (.int x) => x
    | _ => 0
  | _ => fun _ => 0
def kx_rl : kv_E → Nat → Int64
  | .inl (_, _, .inr (.inl f)) => f
  | _ => fun _ => 0
def kx_rq : kv_E → Nat → Option Nat
  | .inl (_, _, .inr (.inr (.inr (.inr f)))) => f
  | _ => fun _ => none
def kx_eqs : kv_E → kv_E → Bool
  | .inl (t, n, .inl _), .inl (t', n', .inl _) => t == t' && n == n'
  | .inl (t, n, .inr (.inl _)), .inl (t', n', .inr (.inl _)) => t == t' && n == n'
  | .inl (t, n, .inr (.inr (.inr (.inr _)))), .inl (t', n', .inr (.inr (.inr (.inr _)))) => t == t' && n == n'
  | .inr (ci, fs), .inr (cj, gs) => ci == cj && decide (fs = gs)
  | _, _ => false
def kx_ce (h : kv_H) (a : Nat) : kv_E := (h[a]?).getD (.inr (0, []))
def kx_gg (h : kv_H) : kv_S := fun a => kx_ri (kx_ce h a)
def kx_ww (h : kv_H) : kv_W := (kx_rl (kx_ce h 47), fun a => kx_rq (kx_ce h a))
theorem kx_cr_int {a t n : Nat} {r f : Nat → Int32} {w : kv_W} (h : kv_cr a r w = .inl (t, n, .inl f)) : f = r := by
  unfold kv_cr at h
  split at h <;> first | (cases h; rfl) | cases h
theorem kx_cr_long {a t n : Nat} {r : Nat → Int32} {f : Nat → Int64} {w : kv_W} (h : kv_cr a r w = .inl (t, n, .inr (.inl f))) : f = w.1 ∧ a = 47 := by
  unfold kv_cr at h
  split at h <;> first | (cases h; exact ⟨rfl, rfl⟩) | cases h
theorem kx_cr_ref {a t n : Nat} {r : Nat → Int32} {f : Nat → Option Nat} {w : kv_W} (h : kv_cr a r w = .inl (t, n, .inr (.inr (.inr (.inr f))))) : f = w.2 a := by
  unfold kv_cr at h
  split at h <;> first | (cases h; rfl) | cases h
theorem kx_fix {h : kv_H} {a : Nat} (he : kx_eqs (kx_ce h a) (kv_cr a (kx_gg h a) (kx_ww h)) = true) : kx_ce h a = kv_cr a (kx_gg h a) (kx_ww h) := by
  cases hk : kv_cr a (kx_gg h a) (kx_ww h) with
  | inl x =>
    obtain ⟨t', n', f' | f' | f' | f' | f'⟩ := x <;> rw [hk] at he <;> cases hc : kx_ce h a with
    | inl y =>
      obtain ⟨t, n, f | f | f | f | f⟩ := y <;> rw [hc] at he <;> simp only [kx_eqs, Bool.and_eq_true, beq_iff_eq, Bool.false_eq_true] at he
      all_goals
        obtain ⟨rfl, rfl⟩ := he
        first
          | (have e := kx_cr_int hk; have e2 : kx_gg h a = f := by rw [kx_gg, hc]; rfl
             rw [e, e2])
          | (obtain ⟨e, rfl⟩ := kx_cr_long hk; have e2 : (kx_ww h).1 = f := by rw [kx_ww, hc]; rfl
             rw [e, e2])
          | (have e := kx_cr_ref hk; have e2 : (kx_ww h).2 a = f := by rw [kx_ww]; show kx_rq (kx_ce h a) = f; rw [hc]; rfl
             rw [e, e2])
    | inr y => rw [hc] at he; exact absurd he (by simp [kx_eqs])
  | inr x =>
    rw [hk] at he
    cases hc : kx_ce h a with
    | inl y => obtain ⟨t, n, f | f | f | f | f⟩ := y <;> rw [hc] at he <;> exact absurd he (by simp [kx_eqs])
    | inr y =>
      rw [hc] at he
      simp only [kx_eqs, Bool.and_eq_true, beq_iff_eq, decide_eq_true_eq] at he
      obtain ⟨e1, e2⟩ := he
      obtain ⟨c1, c2⟩ := x
      obtain ⟨d1, d2⟩ := y
      dsimp only at e1 e2
      rw [e1, e2]
theorem kx_isw {h : kv_H} (hl : h.length = 76) (he : (List.range 76).all (fun a => kx_eqs (kx_ce h a) (kv_cr a (kx_gg h a) (kx_ww h))) = true) : h = kv_wd (kx_gg h) (kx_ww h) := by
  apply List.ext_getElem?
  intro j
  by_cases hj : j < 76
  · rw [kv_wd_get hj, ← kx_fix (List.all_eq_true.mp he j (List.mem_range.mpr hj))]
    unfold kx_ce
    rw [List.getElem?_eq_getElem (by omega)]
    rfl
  · rw [List.getElem?_eq_none (by omega), List.getElem?_eq_none (show (kv_wd (kx_gg h) (kx_ww h)).length ≤ j from Nat.not_lt.mp hj)]
def kx_alq (g : kv_S) (a n : Nat) (x : Int32) : Bool := (List.range n).all (fun k => g a k == x)
/-- what class and reference hold at first -/
def kx_ini (g : kv_S) (w : kv_W) : Bool :=
  (g 1 0 == 4 && g 1 1 == 15 && g 1 4 == 0 && g 1 8 == 0 && g 1 10 == 0 && g 1 11 == 1 && g 2 2 == 0 && kx_alq g 3 6 10 && kx_alq g 4 6 20) &&
  (g 0 2 == 0 && g 6 0 == 0 && g 6 2 == 0 && g 9 0 == 1 && g 9 2 == 0 && g 27 0 == 0 && g 30 0 == 1 && g 49 0 == 0) &&
  (g 53 1 == 0 && kx_alq g 64 6 0 && (List.range 4).all (fun s => g (56 + 2 * s) 0 == 0 && g (56 + 2 * s) 1 == 0 && kx_alq g (57 + 2 * s) 40 0)) &&
  (g 65 4 == 0 && g 65 5 == 0 && g 65 20 == 0 && kx_alq g 70 6 0 && kx_alq g 71 4 0 && kx_alq g 72 4 0 && kx_alq g 73 160 0) &&
  ((List.range 268).all (fun j => g 66 j == (if j = 1 then 1 else if j = 3 then 4 else if j = 6 ∨ j = 7 then -1 else if 8 ≤ j ∧ j < 14 then 10 else if 14 ≤ j ∧ j < 20 then 20 else if 20 ≤ j ∧ j < 26 then 1 else 0))) &&
  ((List.range 8).all (fun j => w.2 5 j == some (14 + j)) && (List.range 8).all (fun j => w.2 26 j == some (35 + j)) && (List.range 4).all (fun j => w.2 55 j == some (56 + 2 * j)))
noncomputable def kx_boot : Bool := match kx_xe (fun _ => none) 6 80 [.ref 0] [.inr (8, kv_dv 8)] with
  | some (none, h1) => match kx_xe (fun _ => none) 6 129 [.ref h1.length] (h1 ++ [.inr (9, kv_dv 9)]) with
    | some (none, h2) => h1.length == 65 && (h2.length == 76 && ((List.range 76).all (fun a => kx_eqs (kx_ce h2 a) (kv_cr a (kx_gg h2 a) (kx_ww h2))) && (kx_ini (kx_gg h2) (kx_ww h2) && decide (kv_sz h2 ≤ 7302250))))
    | _ => false
  | _ => false
set_option maxRecDepth 1000000 in
theorem kx_boot_ok : kx_boot = true := by decide +kernel
theorem kx_begin : ∃ (h1 : kv_H) (g : kv_S) (w : kv_W), (∀ E : kv_V, kv_ev E 6 80 [.ref 0] [.inr (8, kv_dv 8)] none h1 ∧ kv_ev E 6 129 [.ref 65] (h1 ++ [.inr (9, kv_dv 9)]) none (kv_wd g w)) ∧ h1.length = 65 ∧ kx_ini g w = true ∧ kv_sz (kv_wd g w) ≤ 7302250 := by
  have hb := kx_boot_ok
  unfold kx_boot at hb
  split at hb
  · rename_i h1 e1
    split at hb
    · rename_i h2 e2
      simp only [Bool.and_eq_true, beq_iff_eq, decide_eq_true_eq] at hb
      obtain ⟨b1, b2, b3, b4, b5⟩ := hb
      have hw := kx_isw b2 b3
      refine ⟨h1, kx_gg h2, kx_ww h2, fun E => ⟨kx_ev_E (fun a x h => by cases h) _ _ _ _ _ _ (kx_xe_s _ _ _ _ _ _ e1), ?_⟩, b1, b4, by rw [← hw]; exact b5⟩
      rw [← hw]
      rw [b1] at e2
      exact kx_ev_E (fun a x h => by cases h) _ _ _ _ _ _ (kx_xe_s _ _ _ _ _ _ e2)
    · cases hb
  · cases hb
