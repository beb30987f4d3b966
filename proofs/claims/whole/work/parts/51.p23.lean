/-! PAIR: loose -/
abbrev kx_lcg (x : Int32) : Int32 := x * 1103515245 + 12345
def kx_dw (z : Int32) : Int32 := (z.toUInt32 >>> ((8 : Int32).toUInt32 &&& Int32.toUInt32 31)).toInt32
def kx_dwn (s : Nat) (z : Int32) : Nat := (kx_dw z / 8 % nI s).toNatClampNeg
theorem kx_dw_n (z : Int32) : ∃ N, N < 2 ^ 24 ∧ kx_dw z = nI N := by
  have h := pk_ushr z 8 8 (by decide)
  have hz := z.toBitVec.isLt
  refine ⟨z.toBitVec.toNat / 2 ^ 8, by omega, Int32.toBitVec_inj.mp (BitVec.eq_of_toNat_eq ?_)⟩
  show (z.toUInt32 >>> ((8 : Int32).toUInt32 &&& Int32.toUInt32 31)).toInt32.toBitVec.toNat = _
  rw [h]
  show _ = (BitVec.ofNat 32 _).toNat
  rw [BitVec.toNat_ofNat, Nat.mod_eq_of_lt (by omega)]
theorem kx_dwp {z : Int32} {s : Nat} (h2 : 2 ≤ s) (h6 : s ≤ 6) : kx_dwn s z < s ∧ kx_dw z / 8 % nI s = nI (kx_dwn s z) := by
  obtain ⟨N, h1, h3⟩ := kx_dw_n z
  have e : kx_dw z / 8 % nI s = nI (N / 8 % s) := by
    rw [h3, show (8 : Int32) = nI 8 from rfl, pk_div (by omega) (by omega) (by omega)]
    have hm : N / 8 % s < s := Nat.mod_lt _ (by omega)
    refine Int32.toInt_inj.mp ?_
    rw [Int32.toInt_mod, nI_toInt (by omega), nI_toInt (by omega), nI_toInt (by omega)]
    rw [Int.tmod_eq_emod_of_nonneg (by omega)]
    rfl
  have hm : N / 8 % s < s := Nat.mod_lt _ (by omega)
  have e2 : kx_dwn s z = N / 8 % s := by unfold kx_dwn; rw [e, nI_clamp (by omega)]
  rw [e2]
  exact ⟨hm, e⟩
def kx_ltt (s t : Nat) (z : Int32) : Nat := if kx_dw z % 5 = 0 then (if t.testBit (kx_dwn s z) = true then t &&& (63 ^^^ 2 ^ kx_dwn s z) else t ||| 2 ^ kx_dwn s z) else t
theorem kx_ltt_lt {s t : Nat} {z : Int32} (h2 : 2 ≤ s) (h6 : s ≤ 6) (ht : t < 2 ^ s) : kx_ltt s t z < 2 ^ s := by
  have := kx_sbl ht (kx_dwp (z := z) h2 h6).1
  unfold kx_ltt
  split
  · split
    · exact this.2
    · exact this.1
  · exact ht
theorem kx_ltt_bit {s t : Nat} {z : Int32} (h2 : 2 ≤ s) (h6 : s ≤ 6) (ht : t < 2 ^ s) {x : Nat} (hx : x < s) : (kx_ltt s t z).testBit x = if kx_dw z % 5 = 0 ∧ x = kx_dwn s z then !t.testBit x else t.testBit x := by
  have h64 : t < 64 := Nat.lt_of_lt_of_le ht (Nat.pow_le_pow_right (by omega) h6)
  have hp := (kx_dwp (z := z) h2 h6).1
  have hb := kx_sb2 t h64 (kx_dwn s z) (by omega) x (by omega)
  unfold kx_ltt
  by_cases h5 : kx_dw z % 5 = 0
  · rw [if_pos h5]
    by_cases htb : t.testBit (kx_dwn s z) = true
    · rw [if_pos htb, hb.2]
      by_cases hxp : x = kx_dwn s z
      · rw [if_pos (show kx_dw z % 5 = 0 ∧ x = kx_dwn s z from ⟨h5, hxp⟩), hxp, htb]; simp
      · have : (x == kx_dwn s z) = false := by simpa using hxp
        rw [if_neg (show ¬ (kx_dw z % 5 = 0 ∧ x = kx_dwn s z) from fun q => hxp q.2), this]; simp
    · rw [if_neg htb, hb.1]
      by_cases hxp : x = kx_dwn s z
      · rw [if_pos (show kx_dw z % 5 = 0 ∧ x = kx_dwn s z from ⟨h5, hxp⟩), hxp]
        simp at htb
        simp [htb]
      · have : (x == kx_dwn s z) = false := by simpa using hxp
        rw [if_neg (show ¬ (kx_dw z % 5 = 0 ∧ x = kx_dwn s z) from fun q => hxp q.2), this]; simp
  · rw [if_neg h5, if_neg (show ¬ (kx_dw z % 5 = 0 ∧ x = kx_dwn s z) from fun q => h5 q.1)]
abbrev kx_ZS : Type := Nat × kx_Q × Int32
def kx_zs (F : kx_FF) (s : Nat) (S : kx_ZS) : kx_ZS := (kx_ltt s S.1 (kx_lcg S.2.2), kx_yq F s (kx_ltt s S.1 (kx_lcg S.2.2)) S.2.1, kx_lcg S.2.2)
def kx_zn (F : kx_FF) (s : Nat) : Nat → kx_ZS → kx_ZS
  | 0, S => S
  | n + 1, S => kx_zs F s (kx_zn F s n S)
theorem kx_zn_lt {F : kx_FF} {s : Nat} {S : kx_ZS} (h2 : 2 ≤ s) (h6 : s ≤ 6) (h : S.1 < 2 ^ s) : ∀ n, (kx_zn F s n S).1 < 2 ^ s
  | 0 => h
  | n + 1 => kx_ltt_lt h2 h6 (kx_zn_lt h2 h6 h n)
theorem kx_zn_b {F : kx_FF} {s : Nat} {S : kx_ZS} (hF : kx_LF 0 F) (h : kx_qb S.2.1) : ∀ n, kx_qb (kx_zn F s n S).2.1
  | 0 => h
  | n + 1 => kx_qb_y hF (kx_zn_b hF h n)
theorem kx_zn_y {F : kx_FF} {s : Nat} {S : kx_ZS} : ∀ n, (kx_zn F s n S).2.1.2.2 = S.2.1.2.2 + n
  | 0 => rfl
  | n + 1 => by show (kx_zn F s n S).2.1.2.2 + 1 = _; rw [kx_zn_y n]; omega
theorem kx_X_t {F0 F1 : kx_FF} {s t t' m : Nat} {K : Nat → Nat → Int32} {g g' : kv_S} (ht : t' < 2 ^ s) (e1 : g' 1 1 = nI t') (e10 : g' 1 0 = g 1 0) (e14 : g' 1 4 = g 1 4) (e : ∀ b, b ≠ 1 → g' b = g b) (h : kx_X F0 F1 s t m K g) : kx_X F0 F1 s t' m K g' := by
  obtain ⟨⟨h1, h2, h3, h4⟩, ⟨u1, u2, u3⟩, u4, u5, u6⟩ := h
  exact ⟨⟨h1, h2, ht, h4⟩, ⟨e10.trans u1, e1, e14.trans u3⟩, by rw [e 6 (by omega), e 9 (by omega)]; exact u4, by rw [e 6 (by omega), e 9 (by omega), e 7 (by omega), e 10 (by omega)]; exact u5, fun k hk c hc => by rw [e (14 + k) (by omega)]; exact u6 k hk c hc⟩
theorem kx_M_t {F0 F1 : kx_FF} {s t t' m : Nat} {K : Nat → Nat → Int32} {r r' : Nat → Int32} (ht : t' < 2 ^ s) (e : ∀ j, 1 < j → (j < 8 ∨ 26 ≤ j) → r' j = r j) (e20 : ∀ p, p < s → r' (20 + p) = if t'.testBit p = true then 1 else 0) (h : kx_M F0 F1 s t m K r) : kx_M F0 F1 s t' m K r' := by
  obtain ⟨⟨h1, h2, h3, h4⟩, ⟨u1, u2⟩, u3, ⟨u4, u5⟩, u6⟩ := h
  exact ⟨⟨h1, h2, ht, h4⟩, ⟨(e 3 (by omega) (by omega)).trans u1, (e 2 (by omega) (by omega)).trans u2⟩, e20, ⟨kx_Lm_cg (e 6 (by omega) (by omega)) (fun j hj => e _ (by omega) (by omega)) u4, kx_Lm_cg (e 7 (by omega) (by omega)) (fun j hj => e _ (by omega) (by omega)) u5⟩, fun k hk c hc => (e _ (by omega) (by omega)).trans (u6 k hk c hc)⟩
set_option maxRecDepth 100000 in
theorem ev_comeOrGo {E : kv_V} {d : Nat} {g : kv_S} {w : kv_W} {F0 F1 : kx_FF} {s t m : Nat} {K : Nat → Nat → Int32} (hX : kx_X F0 F1 s t m K g) : ∃ g' : kv_S, kv_ev E (d + 3) 25 [.ref 1] (kv_wd g w) none (kv_wd g' w) ∧ kx_X F0 F1 s (kx_ltt s t (kx_lcg (g 1 11))) m K g' ∧ g' 1 11 = kx_lcg (g 1 11) ∧ (∀ b, b ≠ 1 → g' b = g b) ∧ ∀ k, k ≠ 1 → k ≠ 11 → g' 1 k = g 1 k := by
  have hs2 := hX.1.1
  have hs6 := hX.1.2.1
  have ht := hX.1.2.2.1
  have h64 : t < 64 := Nat.lt_of_lt_of_le ht (Nat.pow_le_pow_right (by omega) hs6)
  obtain ⟨p, ep⟩ : ∃ p, p = kx_dwn s (kx_lcg (g 1 11)) := ⟨_, rfl⟩
  obtain ⟨hp, hpz⟩ := kx_dwp (z := kx_lcg (g 1 11)) hs2 hs6
  rw [← ep] at hp hpz
  have hXz : kx_X F0 F1 s t m K (kv_up g 1 11 ((g 1 11 * 1103515245) + 12345)) := kx_X_t (g := g) ht hX.2.1.2.1 rfl rfl (fun b hb => kv_up_ne hb) hX
  obtain ⟨v, hf, he, rfl, g', rfl, hh⟩ := kx_evP (E := E) (d := d + 2) (y := 25) (h := kv_wd g w) (as := [.ref 1]) (P := fun v h => v = none ∧ ∃ g' : kv_S, h = kv_wd g' w ∧ kx_X F0 F1 s (kx_ltt s t (kx_lcg (g 1 11))) m K g' ∧ g' 1 11 = kx_lcg (g 1 11) ∧ (∀ b, b ≠ 1 → g' b = g b) ∧ ∀ k, k ≠ 1 → k ≠ 11 → g' 1 k = g 1 k) (by decide) (Nat.le_of_ble_eq_true rfl) (by
    refine kx_st 0 (pc' := 0) (L' := [some (.ref 1), none, none]) (st' := []) (h' := kv_wd g w) rfl ?_
    refine kx_st 7 (pc' := 12) (L' := [some (.ref 1), none, none]) (st' := [.int (((g 1 11) * 1103515245) + 12345), .ref 1]) (h' := kv_wd g w) rfl ?_
    refine kx_pf (i := 57) (k := 11) (x := (((g 1 11) * 1103515245) + 12345)) rfl rfl (by decide) rfl (Nat.le_of_ble_eq_true rfl) rfl rfl rfl ?_
    refine kx_st 7 (pc' := 25) (L' := [some (.ref 1), some (.int ((((kv_up g 1 11 (((g 1 11) * 1103515245) + 12345)) 1 11).toUInt32 >>> ((8 : Int32).toUInt32 &&& Int32.toUInt32 31)).toInt32)), none]) (st' := [.int 5, .int ((((kv_up g 1 11 (((g 1 11) * 1103515245) + 12345)) 1 11).toUInt32 >>> ((8 : Int32).toUInt32 &&& Int32.toUInt32 31)).toInt32)]) (h' := kv_wd (kv_up g 1 11 (((g 1 11) * 1103515245) + 12345)) w) rfl ?_
    refine kx_rm rfl (by decide) ?_
    refine kx_bc (t := 64) rfl rfl (fun (h26 : ¬ ((((kv_up g 1 11 (((g 1 11) * 1103515245) + 12345)) 1 11).toUInt32 >>> ((8 : Int32).toUInt32 &&& Int32.toUInt32 31)).toInt32) % 5 = 0) => ?_) (fun (h26 : ¬ (¬ ((((kv_up g 1 11 (((g 1 11) * 1103515245) + 12345)) 1 11).toUInt32 >>> ((8 : Int32).toUInt32 &&& Int32.toUInt32 31)).toInt32) % 5 = 0)) => ?_)
    · refine kx_ret (v := none) rfl ?_
      have et : kx_ltt s t (kx_lcg (g 1 11)) = t := if_neg h26
      exact ⟨rfl, _, rfl, by rw [et]; exact hXz, rfl, fun b hb => kv_up_ne hb, fun k _ h11 => kx_upn h11⟩
    · refine kx_st 0 (pc' := 29) (L' := [some (.ref 1), some (.int ((((kv_up g 1 11 (((g 1 11) * 1103515245) + 12345)) 1 11).toUInt32 >>> ((8 : Int32).toUInt32 &&& Int32.toUInt32 31)).toInt32)), none]) (st' := []) (h' := kv_wd (kv_up g 1 11 (((g 1 11) * 1103515245) + 12345)) w) rfl ?_
      refine kx_st 2 (pc' := 33) (L' := [some (.ref 1), some (.int ((((kv_up g 1 11 (((g 1 11) * 1103515245) + 12345)) 1 11).toUInt32 >>> ((8 : Int32).toUInt32 &&& Int32.toUInt32 31)).toInt32)), none]) (st' := [.int ((kv_up g 1 11 (((g 1 11) * 1103515245) + 12345)) 1 0)]) (h' := kv_wd (kv_up g 1 11 (((g 1 11) * 1103515245) + 12345)) w) rfl ?_
      refine kx_bc (t := 64) rfl rfl (fun (h33 : (kv_up g 1 11 (((g 1 11) * 1103515245) + 12345)) 1 0 ≤ 0) => ?_) (fun (h33 : ¬ ((kv_up g 1 11 (((g 1 11) * 1103515245) + 12345)) 1 0 ≤ 0)) => ?_)
      · exact absurd h33 (by show ¬ g 1 0 ≤ 0; rw [hX.2.1.1]; exact nI_nle (by omega) (by omega))
      · refine kx_st 0 (pc' := 36) (L' := [some (.ref 1), some (.int ((((kv_up g 1 11 (((g 1 11) * 1103515245) + 12345)) 1 11).toUInt32 >>> ((8 : Int32).toUInt32 &&& Int32.toUInt32 31)).toInt32)), none]) (st' := []) (h' := kv_wd (kv_up g 1 11 (((g 1 11) * 1103515245) + 12345)) w) rfl ?_
        refine kx_st 2 (pc' := 39) (L' := [some (.ref 1), some (.int ((((kv_up g 1 11 (((g 1 11) * 1103515245) + 12345)) 1 11).toUInt32 >>> ((8 : Int32).toUInt32 &&& Int32.toUInt32 31)).toInt32)), none]) (st' := [.int 8, .int ((((kv_up g 1 11 (((g 1 11) * 1103515245) + 12345)) 1 11).toUInt32 >>> ((8 : Int32).toUInt32 &&& Int32.toUInt32 31)).toInt32)]) (h' := kv_wd (kv_up g 1 11 (((g 1 11) * 1103515245) + 12345)) w) rfl ?_
        refine kx_dv rfl (by decide) ?_
        refine kx_st 2 (pc' := 44) (L' := [some (.ref 1), some (.int ((((kv_up g 1 11 (((g 1 11) * 1103515245) + 12345)) 1 11).toUInt32 >>> ((8 : Int32).toUInt32 &&& Int32.toUInt32 31)).toInt32)), none]) (st' := [.int ((kv_up g 1 11 (((g 1 11) * 1103515245) + 12345)) 1 0), .int (((((kv_up g 1 11 (((g 1 11) * 1103515245) + 12345)) 1 11).toUInt32 >>> ((8 : Int32).toUInt32 &&& Int32.toUInt32 31)).toInt32) / 8)]) (h' := kv_wd (kv_up g 1 11 (((g 1 11) * 1103515245) + 12345)) w) rfl ?_
        refine kx_rm rfl (by show ¬ g 1 0 = 0; rw [hX.2.1.1]; exact nI_ne0 (by omega) (by omega)) ?_
        refine kx_st 5 (pc' := 50) (L' := [some (.ref 1), some (.int ((((kv_up g 1 11 (((g 1 11) * 1103515245) + 12345)) 1 11).toUInt32 >>> ((8 : Int32).toUInt32 &&& Int32.toUInt32 31)).toInt32)), some (.int ((((((kv_up g 1 11 (((g 1 11) * 1103515245) + 12345)) 1 11).toUInt32 >>> ((8 : Int32).toUInt32 &&& Int32.toUInt32 31)).toInt32) / 8) % ((kv_up g 1 11 (((g 1 11) * 1103515245) + 12345)) 1 0)))]) (st' := [.int ((((((kv_up g 1 11 (((g 1 11) * 1103515245) + 12345)) 1 11).toUInt32 >>> ((8 : Int32).toUInt32 &&& Int32.toUInt32 31)).toInt32) / 8) % ((kv_up g 1 11 (((g 1 11) * 1103515245) + 12345)) 1 0)), .ref 1, .int ((((((kv_up g 1 11 (((g 1 11) * 1103515245) + 12345)) 1 11).toUInt32 >>> ((8 : Int32).toUInt32 &&& Int32.toUInt32 31)).toInt32) / 8) % ((kv_up g 1 11 (((g 1 11) * 1103515245) + 12345)) 1 0)), .ref 1]) (h' := kv_wd (kv_up g 1 11 (((g 1 11) * 1103515245) + 12345)) w) rfl ?_
        have hpn : (((((kv_up g 1 11 (((g 1 11) * 1103515245) + 12345)) 1 11).toUInt32 >>> ((8 : Int32).toUInt32 &&& Int32.toUInt32 31)).toInt32) / 8) % ((kv_up g 1 11 (((g 1 11) * 1103515245) + 12345)) 1 0) = nI p := by
          show kx_dw (kx_lcg (g 1 11)) / 8 % g 1 0 = nI p
          rw [hX.2.1.1]
          exact hpz
        refine kx_call (z := 13) (as := [.ref 1, .int ((((((kv_up g 1 11 (((g 1 11) * 1103515245) + 12345)) 1 11).toUInt32 >>> ((8 : Int32).toUInt32 &&& Int32.toUInt32 31)).toInt32) / 8) % ((kv_up g 1 11 (((g 1 11) * 1103515245) + 12345)) 1 0))]) (rest := [.int ((((((kv_up g 1 11 (((g 1 11) * 1103515245) + 12345)) 1 11).toUInt32 >>> ((8 : Int32).toUInt32 &&& Int32.toUInt32 31)).toInt32) / 8) % ((kv_up g 1 11 (((g 1 11) * 1103515245) + 12345)) 1 0)), .ref 1]) (v := some (.int (kx_b (t.testBit p = true)))) (h1 := kv_wd (kv_up g 1 11 (((g 1 11) * 1103515245) + 12345)) w) rfl (by rw [hpn]; exact ev_isThereT (d := d) (g := kv_up g 1 11 (((g 1 11) * 1103515245) + 12345)) hXz p hp) ?_
        refine kx_st 0 (pc' := 53) (L' := [some (.ref 1), some (.int ((((kv_up g 1 11 (((g 1 11) * 1103515245) + 12345)) 1 11).toUInt32 >>> ((8 : Int32).toUInt32 &&& Int32.toUInt32 31)).toInt32)), some (.int ((((((kv_up g 1 11 (((g 1 11) * 1103515245) + 12345)) 1 11).toUInt32 >>> ((8 : Int32).toUInt32 &&& Int32.toUInt32 31)).toInt32) / 8) % ((kv_up g 1 11 (((g 1 11) * 1103515245) + 12345)) 1 0)))]) (st' := [.int (kx_b (t.testBit p = true)), .int ((((((kv_up g 1 11 (((g 1 11) * 1103515245) + 12345)) 1 11).toUInt32 >>> ((8 : Int32).toUInt32 &&& Int32.toUInt32 31)).toInt32) / 8) % ((kv_up g 1 11 (((g 1 11) * 1103515245) + 12345)) 1 0)), .ref 1]) (h' := kv_wd (kv_up g 1 11 (((g 1 11) * 1103515245) + 12345)) w) rfl ?_
        refine kx_bn (t := 60) rfl rfl (fun (h53 : (t.testBit p = true)) => ?_) (fun (h53 : ¬ (t.testBit p = true)) => ?_)
        · refine kx_st 1 (pc' := 61) (L' := [some (.ref 1), some (.int ((((kv_up g 1 11 (((g 1 11) * 1103515245) + 12345)) 1 11).toUInt32 >>> ((8 : Int32).toUInt32 &&& Int32.toUInt32 31)).toInt32)), some (.int ((((((kv_up g 1 11 (((g 1 11) * 1103515245) + 12345)) 1 11).toUInt32 >>> ((8 : Int32).toUInt32 &&& Int32.toUInt32 31)).toInt32) / 8) % ((kv_up g 1 11 (((g 1 11) * 1103515245) + 12345)) 1 0)))]) (st' := [.int 0, .int ((((((kv_up g 1 11 (((g 1 11) * 1103515245) + 12345)) 1 11).toUInt32 >>> ((8 : Int32).toUInt32 &&& Int32.toUInt32 31)).toInt32) / 8) % ((kv_up g 1 11 (((g 1 11) * 1103515245) + 12345)) 1 0)), .ref 1]) (h' := kv_wd (kv_up g 1 11 (((g 1 11) * 1103515245) + 12345)) w) rfl ?_
          refine kx_call (z := 15) (as := [.ref 1, .int ((((((kv_up g 1 11 (((g 1 11) * 1103515245) + 12345)) 1 11).toUInt32 >>> ((8 : Int32).toUInt32 &&& Int32.toUInt32 31)).toInt32) / 8) % ((kv_up g 1 11 (((g 1 11) * 1103515245) + 12345)) 1 0)), .int 0]) (rest := []) (v := none) (h1 := kv_wd (kv_up (kv_up g 1 11 (((g 1 11) * 1103515245) + 12345)) 1 1 ((kv_up g 1 11 (((g 1 11) * 1103515245) + 12345)) 1 1 &&& ((1 <<< (nI p &&& 31)) ^^^ (-1)))) w) rfl (by rw [hpn]; exact ev_setThere_0 (d := d) (g := kv_up g 1 11 (((g 1 11) * 1103515245) + 12345)) s p hX.2.1.1 hs6 hp) ?_
          refine kx_st 0 (pc' := 64) (L' := [some (.ref 1), some (.int ((((kv_up g 1 11 (((g 1 11) * 1103515245) + 12345)) 1 11).toUInt32 >>> ((8 : Int32).toUInt32 &&& Int32.toUInt32 31)).toInt32)), some (.int ((((((kv_up g 1 11 (((g 1 11) * 1103515245) + 12345)) 1 11).toUInt32 >>> ((8 : Int32).toUInt32 &&& Int32.toUInt32 31)).toInt32) / 8) % ((kv_up g 1 11 (((g 1 11) * 1103515245) + 12345)) 1 0)))]) (st' := []) (h' := kv_wd (kv_up (kv_up g 1 11 (((g 1 11) * 1103515245) + 12345)) 1 1 ((kv_up g 1 11 (((g 1 11) * 1103515245) + 12345)) 1 1 &&& ((1 <<< (nI p &&& 31)) ^^^ (-1)))) w) rfl ?_
          refine kx_ret (v := none) rfl ?_
          have et : kx_ltt s t (kx_lcg (g 1 11)) = t &&& (63 ^^^ 2 ^ p) := by unfold kx_ltt; rw [← ep, if_pos (show kx_dw (kx_lcg (g 1 11)) % 5 = 0 from Classical.not_not.mp h26)]; exact if_pos h53
          refine ⟨rfl, _, rfl, ?_, rfl, fun b hb => by rw [kv_up_ne hb, kv_up_ne hb], fun k h1 h11 => ?_⟩
          · rw [et]
            refine kx_X_t (g := g) ((kx_sbl ht hp).2) ?_ rfl rfl (fun b hb => by rw [kv_up_ne hb, kv_up_ne hb]) hX
            show g 1 1 &&& ((1 <<< (nI p &&& 31)) ^^^ (-1)) = _
            rw [hX.2.1.2.1]
            exact (kx_sb t h64 p (by omega)).2
          · show upd (upd (g 1) 11 _) 1 _ k = _
            rw [kx_upn h1, kx_upn h11]
        · refine kx_st 0 (pc' := 56) (L' := [some (.ref 1), some (.int ((((kv_up g 1 11 (((g 1 11) * 1103515245) + 12345)) 1 11).toUInt32 >>> ((8 : Int32).toUInt32 &&& Int32.toUInt32 31)).toInt32)), some (.int ((((((kv_up g 1 11 (((g 1 11) * 1103515245) + 12345)) 1 11).toUInt32 >>> ((8 : Int32).toUInt32 &&& Int32.toUInt32 31)).toInt32) / 8) % ((kv_up g 1 11 (((g 1 11) * 1103515245) + 12345)) 1 0)))]) (st' := [.int ((((((kv_up g 1 11 (((g 1 11) * 1103515245) + 12345)) 1 11).toUInt32 >>> ((8 : Int32).toUInt32 &&& Int32.toUInt32 31)).toInt32) / 8) % ((kv_up g 1 11 (((g 1 11) * 1103515245) + 12345)) 1 0)), .ref 1]) (h' := kv_wd (kv_up g 1 11 (((g 1 11) * 1103515245) + 12345)) w) rfl ?_
          refine kx_st 2 (pc' := 61) (L' := [some (.ref 1), some (.int ((((kv_up g 1 11 (((g 1 11) * 1103515245) + 12345)) 1 11).toUInt32 >>> ((8 : Int32).toUInt32 &&& Int32.toUInt32 31)).toInt32)), some (.int ((((((kv_up g 1 11 (((g 1 11) * 1103515245) + 12345)) 1 11).toUInt32 >>> ((8 : Int32).toUInt32 &&& Int32.toUInt32 31)).toInt32) / 8) % ((kv_up g 1 11 (((g 1 11) * 1103515245) + 12345)) 1 0)))]) (st' := [.int 1, .int ((((((kv_up g 1 11 (((g 1 11) * 1103515245) + 12345)) 1 11).toUInt32 >>> ((8 : Int32).toUInt32 &&& Int32.toUInt32 31)).toInt32) / 8) % ((kv_up g 1 11 (((g 1 11) * 1103515245) + 12345)) 1 0)), .ref 1]) (h' := kv_wd (kv_up g 1 11 (((g 1 11) * 1103515245) + 12345)) w) rfl ?_
          refine kx_call (z := 15) (as := [.ref 1, .int ((((((kv_up g 1 11 (((g 1 11) * 1103515245) + 12345)) 1 11).toUInt32 >>> ((8 : Int32).toUInt32 &&& Int32.toUInt32 31)).toInt32) / 8) % ((kv_up g 1 11 (((g 1 11) * 1103515245) + 12345)) 1 0)), .int 1]) (rest := []) (v := none) (h1 := kv_wd (kv_up (kv_up g 1 11 (((g 1 11) * 1103515245) + 12345)) 1 1 ((kv_up g 1 11 (((g 1 11) * 1103515245) + 12345)) 1 1 ||| 1 <<< (nI p &&& 31))) w) rfl (by rw [hpn]; exact ev_setThere_1 (d := d) (g := kv_up g 1 11 (((g 1 11) * 1103515245) + 12345)) s p hX.2.1.1 hs6 hp) ?_
          refine kx_st 0 (pc' := 64) (L' := [some (.ref 1), some (.int ((((kv_up g 1 11 (((g 1 11) * 1103515245) + 12345)) 1 11).toUInt32 >>> ((8 : Int32).toUInt32 &&& Int32.toUInt32 31)).toInt32)), some (.int ((((((kv_up g 1 11 (((g 1 11) * 1103515245) + 12345)) 1 11).toUInt32 >>> ((8 : Int32).toUInt32 &&& Int32.toUInt32 31)).toInt32) / 8) % ((kv_up g 1 11 (((g 1 11) * 1103515245) + 12345)) 1 0)))]) (st' := []) (h' := kv_wd (kv_up (kv_up g 1 11 (((g 1 11) * 1103515245) + 12345)) 1 1 ((kv_up g 1 11 (((g 1 11) * 1103515245) + 12345)) 1 1 ||| 1 <<< (nI p &&& 31))) w) rfl ?_
          refine kx_ret (v := none) rfl ?_
          have et : kx_ltt s t (kx_lcg (g 1 11)) = t ||| 2 ^ p := by unfold kx_ltt; rw [← ep, if_pos (show kx_dw (kx_lcg (g 1 11)) % 5 = 0 from Classical.not_not.mp h26)]; exact if_neg h53
          refine ⟨rfl, _, rfl, ?_, rfl, fun b hb => by rw [kv_up_ne hb, kv_up_ne hb], fun k h1 h11 => ?_⟩
          · rw [et]
            refine kx_X_t (g := g) ((kx_sbl ht hp).1) ?_ rfl rfl (fun b hb => by rw [kv_up_ne hb, kv_up_ne hb]) hX
            show g 1 1 ||| 1 <<< (nI p &&& 31) = _
            rw [hX.2.1.2.1]
            exact (kx_sb t h64 p (by omega)).1
          · show upd (upd (g 1) 11 _) 1 _ k = _
            rw [kx_upn h1, kx_upn h11])
  exact ⟨g', he, hh⟩
set_option maxRecDepth 100000 in
theorem ev_drawn {E : kv_V} {d : Nat} {g : kv_S} {w : kv_W}  : kv_ev E (d + 1) 182 [.ref 65] (kv_wd g w) (some (.int (kx_dw (kx_lcg (g 66 1))))) (kv_wd (kv_up g 66 1 (kx_lcg (g 66 1))) w) := by
  refine kx_ev (d := d + 0) (by decide) (Nat.le_of_ble_eq_true rfl) ?_
  refine kx_st 0 (pc' := 0) (L' := [some (.ref 65)]) (st' := []) (h' := kv_wd g w) rfl ?_
  refine kx_st 6 (pc' := 10) (L' := [some (.ref 65)]) (st' := [.int 1, .ref 66, .int 1, .ref 66]) (h' := kv_wd g w) rfl ?_
  refine kx_ia (k := 1) rfl rfl (by decide) rfl (by decide) (by decide) ?_
  refine kx_st 4 (pc' := 18) (L' := [some (.ref 65)]) (st' := [.int (((g 66 1) * 1103515245) + 12345), .int 1, .ref 66]) (h' := kv_wd g w) rfl ?_
  refine kx_is (k := 1) rfl rfl (by decide) rfl (by decide) (by decide) ?_
  refine kx_st 3 (pc' := 24) (L' := [some (.ref 65)]) (st' := [.int 1, .ref 66]) (h' := kv_wd (kv_up g 66 1 (((g 66 1) * 1103515245) + 12345)) w) rfl ?_
  refine kx_ia (k := 1) rfl rfl (by decide) rfl (by decide) (by decide) ?_
  refine kx_st 2 (pc' := 28) (L' := [some (.ref 65)]) (st' := [.int ((((kv_up g 66 1 (((g 66 1) * 1103515245) + 12345)) 66 1).toUInt32 >>> ((8 : Int32).toUInt32 &&& Int32.toUInt32 31)).toInt32)]) (h' := kv_wd (kv_up g 66 1 (((g 66 1) * 1103515245) + 12345)) w) rfl ?_
  refine kx_ret (v := some (.int ((((kv_up g 66 1 (((g 66 1) * 1103515245) + 12345)) 66 1).toUInt32 >>> ((8 : Int32).toUInt32 &&& Int32.toUInt32 31)).toInt32))) rfl ?_
  exact ⟨rfl, rfl⟩
set_option maxRecDepth 100000 in
theorem lp_xloose {E : kv_V} {d : Nat} {w : kv_W} {F0 F1 : kx_FF} {s m : Nat} {K : Nat → Nat → Int32} (n : Nat) (n60 : n ≤ 60) (S : kx_ZS) (g : kv_S) {P : Option Value → kv_H → Prop} (hP : ∀ g1 : kv_S, (kx_X F0 F1 s (kx_zn F0 s n S).1 m K g1 ∧ kx_hq (g1 3) (g1 4) (g1 2 2) (kx_zn F0 s n S).2.1 ∧ g1 1 11 = (kx_zn F0 s n S).2.2 ∧ (∀ k, k ≠ 1 → k ≠ 11 → g1 1 k = g 1 k) ∧ (∀ b, b ≠ 1 → b ≠ 8 → b ≠ 2 → b ≠ 3 → b ≠ 4 → g1 b = g b)) → kx_V E (d + 6) 94 75 [some (.ref 0), some (.int (nI n)), some (.int (nI n))] [] (kv_wd g1 w) P) : ∀ (nz i : Nat) (g1 : kv_S), i + nz = n → (kx_X F0 F1 s (kx_zn F0 s i S).1 m K g1 ∧ kx_hq (g1 3) (g1 4) (g1 2 2) (kx_zn F0 s i S).2.1 ∧ g1 1 11 = (kx_zn F0 s i S).2.2 ∧ (∀ k, k ≠ 1 → k ≠ 11 → g1 1 k = g 1 k) ∧ (∀ b, b ≠ 1 → b ≠ 8 → b ≠ 2 → b ≠ 3 → b ≠ 4 → g1 b = g b)) → kx_V E (d + 6) 94 43 [some (.ref 0), some (.int (nI n)), some (.int (nI i))] [] (kv_wd g1 w) P := by
  intro nz
  induction nz with
  | zero =>
    intro i g1 hi h1
    have hkN : i = n := by omega
    refine kx_st 2 (pc' := 45) (L' := [some (.ref 0), some (.int (nI n)), some (.int (nI i))]) (st' := [.int (nI n), .int (nI i)]) (h' := kv_wd g1 w) rfl ?_
    refine kx_bi (t := 75) rfl rfl (fun (h45 : nI n ≤ nI i) => ?_) (fun (h45 : ¬ (nI n ≤ nI i)) => ?_)
    · subst hkN
      exact hP g1 h1
    · exact absurd (nI_le (a := n) (b := i) (by omega) (by omega)) h45
  | succ nz ih =>
    intro i g1 hi ⟨u1, u2, u3, u4, u5⟩
    refine kx_st 2 (pc' := 45) (L' := [some (.ref 0), some (.int (nI n)), some (.int (nI i))]) (st' := [.int (nI n), .int (nI i)]) (h' := kv_wd g1 w) rfl ?_
    refine kx_bi (t := 75) rfl rfl (fun (h45 : nI n ≤ nI i) => ?_) (fun (h45 : ¬ (nI n ≤ nI i)) => ?_)
    · exact absurd h45 (nI_ge (a := i) (b := n) (by omega) (by omega))
    · refine kx_st 0 (pc' := 48) (L' := [some (.ref 0), some (.int (nI n)), some (.int (nI i))]) (st' := []) (h' := kv_wd g1 w) rfl ?_
      refine kx_st 2 (pc' := 52) (L' := [some (.ref 0), some (.int (nI n)), some (.int (nI i))]) (st' := [.ref 1]) (h' := kv_wd g1 w) rfl ?_
      obtain ⟨g2, e52, v1, v2, v3, v4⟩ := ev_comeOrGo (E := E) (d := d + 3) (g := g1) (w := w) u1
      rw [u3] at v1 v2
      refine kx_call (z := 25) (as := [.ref 1]) (rest := []) (v := none) (h1 := kv_wd g2 w) rfl e52 ?_
      refine kx_st 0 (pc' := 55) (L' := [some (.ref 0), some (.int (nI n)), some (.int (nI i))]) (st' := []) (h' := kv_wd g2 w) rfl ?_
      refine kx_st 5 (pc' := 66) (L' := [some (.ref 0), some (.int (nI n)), some (.int (nI i))]) (st' := [.ref 1, .ref 2]) (h' := kv_wd g2 w) rfl ?_
      obtain ⟨g3, e66, k1, k2⟩ := ev_goAhead2 (E := E) (d := d) (g := g2) (w := w) v1 _ (by rw [v3 3 (by omega), v3 4 (by omega), v3 2 (by omega)]; exact u2)
      refine kx_call (z := 7) (as := [.ref 2, .ref 1]) (rest := []) (v := none) (h1 := kv_wd g3 w) rfl e66 ?_
      refine kx_st 0 (pc' := 69) (L' := [some (.ref 0), some (.int (nI n)), some (.int (nI i))]) (st' := []) (h' := kv_wd g3 w) rfl ?_
      refine kx_st 2 (pc' := 43) (L' := [some (.ref 0), some (.int (nI n)), some (.int ((nI i) + 1))]) (st' := []) (h' := kv_wd g3 w) rfl ?_
      rw [← nI_succ]
      exact ih (i + 1) g3 (by omega) ⟨kx_X_cg (fun b hb => k2 b (by omega) (by omega) (by omega) (by omega)) v1, k1, by rw [k2 1 (by omega) (by omega) (by omega) (by omega)]; exact v2, fun k z1 z2 => by rw [k2 1 (by omega) (by omega) (by omega) (by omega)]; exact (v4 k z1 z2).trans (u4 k z1 z2), fun b b1 b8 b2 b3 b4 => (k2 b b8 b2 b3 b4).trans ((v3 b b1).trans (u5 b b1 b8 b2 b3 b4))⟩
set_option maxRecDepth 100000 in
theorem lp_mloose {E : kv_V} {d : Nat} {w : kv_W} {F0 F1 : kx_FF} {s m : Nat} {K : Nat → Nat → Int32} (n : Nat) (n60 : n ≤ 60) (S : kx_ZS) (g : kv_S) {P : Option Value → kv_H → Prop} (hP : ∀ (g1 : kv_S) (x3 x4 : Option Value), (kx_M F0 F1 s (kx_zn F0 s n S).1 m K (g1 66) ∧ kx_hmq (g1 66) (kx_zn F0 s n S).2.1 ∧ g1 66 1 = (kx_zn F0 s n S).2.2 ∧ (∀ p, p < 6 → g1 66 (20 + p) = 0 ∨ g1 66 (20 + p) = 1) ∧ (∀ j, 1 < j → (j < 8 ∨ 26 ≤ j) → g1 66 j = g 66 j) ∧ (∀ b, b ≠ 65 → b ≠ 66 → g1 b = g b) ∧ ∀ k, (k < 7 ∨ 14 < k) → g1 65 k = g 65 k) → kx_V E (d + 101) 183 108 [some (.ref 65), some (.int (nI n)), some (.int (nI n)), x3, x4] [] (kv_wd g1 w) P) : ∀ (nz i : Nat) (g1 : kv_S) (x3 x4 : Option Value), i + nz = n → (kx_M F0 F1 s (kx_zn F0 s i S).1 m K (g1 66) ∧ kx_hmq (g1 66) (kx_zn F0 s i S).2.1 ∧ g1 66 1 = (kx_zn F0 s i S).2.2 ∧ (∀ p, p < 6 → g1 66 (20 + p) = 0 ∨ g1 66 (20 + p) = 1) ∧ (∀ j, 1 < j → (j < 8 ∨ 26 ≤ j) → g1 66 j = g 66 j) ∧ (∀ b, b ≠ 65 → b ≠ 66 → g1 b = g b) ∧ ∀ k, (k < 7 ∨ 14 < k) → g1 65 k = g 65 k) → kx_V E (d + 101) 183 40 [some (.ref 65), some (.int (nI n)), some (.int (nI i)), x3, x4] [] (kv_wd g1 w) P := by
  intro nz
  induction nz with
  | zero =>
    intro i g1 x3 x4 hi h1
    have hkN : i = n := by omega
    refine kx_st 2 (pc' := 42) (L' := [some (.ref 65), some (.int (nI n)), some (.int (nI i)), x3, x4]) (st' := [.int (nI n), .int (nI i)]) (h' := kv_wd g1 w) rfl ?_
    refine kx_bi (t := 108) rfl rfl (fun (h42 : nI n ≤ nI i) => ?_) (fun (h42 : ¬ (nI n ≤ nI i)) => ?_)
    · subst hkN
      exact hP g1 x3 x4 h1
    · exact absurd (nI_le (a := n) (b := i) (by omega) (by omega)) h42
  | succ nz ih =>
    intro i g1 x3 x4 hi ⟨u1, u2, u3, u4, u5, u6, u7⟩
    have hs2 := u1.1.1
    have hs6 := u1.1.2.1
    have ht := u1.1.2.2.1
    obtain ⟨p, ep⟩ : ∃ p, p = kx_dwn s (kx_lcg (g1 66 1)) := ⟨_, rfl⟩
    obtain ⟨hp, hpz⟩ := kx_dwp (z := kx_lcg (g1 66 1)) hs2 hs6
    rw [← ep] at hp hpz
    refine kx_st 2 (pc' := 42) (L' := [some (.ref 65), some (.int (nI n)), some (.int (nI i)), x3, x4]) (st' := [.int (nI n), .int (nI i)]) (h' := kv_wd g1 w) rfl ?_
    refine kx_bi (t := 108) rfl rfl (fun (h42 : nI n ≤ nI i) => ?_) (fun (h42 : ¬ (nI n ≤ nI i)) => ?_)
    · exact absurd h42 (nI_ge (a := i) (b := n) (by omega) (by omega))
    · refine kx_st 0 (pc' := 45) (L' := [some (.ref 65), some (.int (nI n)), some (.int (nI i)), x3, x4]) (st' := []) (h' := kv_wd g1 w) rfl ?_
      refine kx_st 1 (pc' := 46) (L' := [some (.ref 65), some (.int (nI n)), some (.int (nI i)), x3, x4]) (st' := [.ref 65]) (h' := kv_wd g1 w) rfl ?_
      refine kx_call (z := 182) (as := [.ref 65]) (rest := []) (v := some (.int (kx_dw (kx_lcg (g1 66 1))))) (h1 := kv_wd (kv_up g1 66 1 (kx_lcg (g1 66 1))) w) rfl (ev_drawn (d := d + 100)) ?_
      refine kx_st 0 (pc' := 49) (L' := [some (.ref 65), some (.int (nI n)), some (.int (nI i)), x3, x4]) (st' := [.int (kx_dw (kx_lcg (g1 66 1)))]) (h' := kv_wd (kv_up g1 66 1 (kx_lcg (g1 66 1))) w) rfl ?_
      refine kx_st 4 (pc' := 55) (L' := [some (.ref 65), some (.int (nI n)), some (.int (nI i)), some (.int (kx_dw (kx_lcg (g1 66 1)))), x4]) (st' := [.int 8, .int (kx_dw (kx_lcg (g1 66 1))), .int 20]) (h' := kv_wd (kv_up g1 66 1 (kx_lcg (g1 66 1))) w) rfl ?_
      refine kx_dv rfl (by decide) ?_
      refine kx_st 3 (pc' := 61) (L' := [some (.ref 65), some (.int (nI n)), some (.int (nI i)), some (.int (kx_dw (kx_lcg (g1 66 1)))), x4]) (st' := [.int 3, .ref 66, .int ((kx_dw (kx_lcg (g1 66 1))) / 8), .int 20]) (h' := kv_wd (kv_up g1 66 1 (kx_lcg (g1 66 1))) w) rfl ?_
      refine kx_ia (k := 3) rfl rfl (by decide) rfl (by decide) (by decide) ?_
      refine kx_rm rfl (by show ¬ g1 66 3 = 0; rw [u1.2.1.1]; exact nI_ne0 (by omega) (by omega)) ?_
      refine kx_st 7 (pc' := 74) (L' := [some (.ref 65), some (.int (nI n)), some (.int (nI i)), some (.int (kx_dw (kx_lcg (g1 66 1)))), some (.int (20 + (((kx_dw (kx_lcg (g1 66 1))) / 8) % ((kv_up g1 66 1 (kx_lcg (g1 66 1))) 66 3))))]) (st' := [.int 5, .int (kx_dw (kx_lcg (g1 66 1))), .int (20 + (((kx_dw (kx_lcg (g1 66 1))) / 8) % ((kv_up g1 66 1 (kx_lcg (g1 66 1))) 66 3))), .ref 66]) (h' := kv_wd (kv_up g1 66 1 (kx_lcg (g1 66 1))) w) rfl ?_
      refine kx_rm rfl (by decide) ?_
      refine kx_bc (t := 90) rfl rfl (fun (h75 : ¬ (kx_dw (kx_lcg (g1 66 1))) % 5 = 0) => ?_) (fun (h75 : ¬ (¬ (kx_dw (kx_lcg (g1 66 1))) % 5 = 0)) => ?_)
      · refine kx_st 3 (pc' := 96) (L' := [some (.ref 65), some (.int (nI n)), some (.int (nI i)), some (.int (kx_dw (kx_lcg (g1 66 1)))), some (.int (20 + (((kx_dw (kx_lcg (g1 66 1))) / 8) % ((kv_up g1 66 1 (kx_lcg (g1 66 1))) 66 3))))]) (st' := [.int (20 + (((kx_dw (kx_lcg (g1 66 1))) / 8) % ((kv_up g1 66 1 (kx_lcg (g1 66 1))) 66 3))), .ref 66, .int (20 + (((kx_dw (kx_lcg (g1 66 1))) / 8) % ((kv_up g1 66 1 (kx_lcg (g1 66 1))) 66 3))), .ref 66]) (h' := kv_wd (kv_up g1 66 1 (kx_lcg (g1 66 1))) w) rfl ?_
        refine kx_ia (k := (20 + p)) rfl rfl (by decide) (by show 20 + kx_dw (kx_lcg (g1 66 1)) / 8 % g1 66 3 = nI (20 + p); rw [u1.2.1.1, hpz]; exact kx_nadd 20 p) (by omega) (by decide) ?_
        refine kx_is (k := (20 + p)) rfl rfl (by decide) (by show 20 + kx_dw (kx_lcg (g1 66 1)) / 8 % g1 66 3 = nI (20 + p); rw [u1.2.1.1, hpz]; exact kx_nadd 20 p) (by omega) (by decide) ?_
        refine kx_st 1 (pc' := 99) (L' := [some (.ref 65), some (.int (nI n)), some (.int (nI i)), some (.int (kx_dw (kx_lcg (g1 66 1)))), some (.int (20 + (((kx_dw (kx_lcg (g1 66 1))) / 8) % ((kv_up g1 66 1 (kx_lcg (g1 66 1))) 66 3))))]) (st' := [.ref 65]) (h' := kv_wd (kv_up (kv_up g1 66 1 (kx_lcg (g1 66 1))) 66 (20 + p) ((kv_up g1 66 1 (kx_lcg (g1 66 1))) 66 (20 + p))) w) rfl ?_
        have h5 : ¬ kx_dw (kx_lcg (g1 66 1)) % 5 = 0 := h75
        have e20 : ∀ x, x < 6 → (kv_up (kv_up g1 66 1 (kx_lcg (g1 66 1))) 66 (20 + p) ((kv_up g1 66 1 (kx_lcg (g1 66 1))) 66 (20 + p))) 66 (20 + x) = if x = p then g1 66 (20 + p) else g1 66 (20 + x) := by
          intro x hx
          show upd (upd (g1 66) 1 _) (20 + p) (upd (g1 66) 1 _ (20 + p)) (20 + x) = _
          by_cases hxp : x = p
          · subst hxp; rw [kx_ups, if_pos rfl, kx_upn (by omega)]
          · rw [kx_upn (by omega), kx_upn (by omega), if_neg hxp]
        have e66 : ∀ j, j ≠ 1 → j ≠ 20 + p → (kv_up (kv_up g1 66 1 (kx_lcg (g1 66 1))) 66 (20 + p) ((kv_up g1 66 1 (kx_lcg (g1 66 1))) 66 (20 + p))) 66 j = g1 66 j := fun j j1 j2 => (kx_upn j2).trans (kx_upn j1)
        have M2 : kx_M F0 F1 s (kx_ltt s (kx_zn F0 s i S).1 (kx_lcg (kx_zn F0 s i S).2.2)) m K ((kv_up (kv_up g1 66 1 (kx_lcg (g1 66 1))) 66 (20 + p) ((kv_up g1 66 1 (kx_lcg (g1 66 1))) 66 (20 + p))) 66) := by
          refine kx_M_t (kx_ltt_lt hs2 hs6 ht) (fun j j1 hj => e66 j (by omega) (by omega)) (fun x hx => ?_) u1
          rw [e20 x (by omega), kx_ltt_bit hs2 hs6 ht hx, ← u3, ← ep]
          by_cases hxp : x = p
          · rw [if_pos hxp, if_neg (show ¬ (kx_dw (kx_lcg (g1 66 1)) % 5 = 0 ∧ x = p) from fun z => h5 z.1), hxp]; exact u1.2.2.1 p hp
          · rw [if_neg hxp, if_neg (show ¬ (kx_dw (kx_lcg (g1 66 1)) % 5 = 0 ∧ x = p) from fun z => hxp z.2)]; exact u1.2.2.1 x hx
        have B2 : ∀ x, x < 6 → (kv_up (kv_up g1 66 1 (kx_lcg (g1 66 1))) 66 (20 + p) ((kv_up g1 66 1 (kx_lcg (g1 66 1))) 66 (20 + p))) 66 (20 + x) = 0 ∨ (kv_up (kv_up g1 66 1 (kx_lcg (g1 66 1))) 66 (20 + p) ((kv_up g1 66 1 (kx_lcg (g1 66 1))) 66 (20 + p))) 66 (20 + x) = 1 := by
          intro x hx
          rw [e20 x hx]
          by_cases hxp : x = p
          · rw [if_pos hxp]
            exact u4 p (by omega)
          · rw [if_neg hxp]; exact u4 x hx
        obtain ⟨g2, e99, k1, k2, k3, k4⟩ := ev_oneYear (E := E) (d := d) (g := kv_up (kv_up g1 66 1 (kx_lcg (g1 66 1))) 66 (20 + p) ((kv_up g1 66 1 (kx_lcg (g1 66 1))) 66 (20 + p))) (w := w) M2 (kx_zn F0 s i S).2.1 ⟨fun x hx => ⟨(e66 _ (by omega) (by omega)).trans (u2.1 x hx).1, (e66 _ (by omega) (by omega)).trans (u2.1 x hx).2⟩, (e66 0 (by omega) (by omega)).trans u2.2⟩
        refine kx_call (z := 178) (as := [.ref 65]) (rest := []) (v := none) (h1 := kv_wd g2 w) rfl e99 ?_
        refine kx_st 0 (pc' := 102) (L' := [some (.ref 65), some (.int (nI n)), some (.int (nI i)), some (.int (kx_dw (kx_lcg (g1 66 1)))), some (.int (20 + (((kx_dw (kx_lcg (g1 66 1))) / 8) % ((kv_up g1 66 1 (kx_lcg (g1 66 1))) 66 3))))]) (st' := []) (h' := kv_wd g2 w) rfl ?_
        refine kx_st 2 (pc' := 40) (L' := [some (.ref 65), some (.int (nI n)), some (.int ((nI i) + 1)), some (.int (kx_dw (kx_lcg (g1 66 1)))), some (.int (20 + (((kx_dw (kx_lcg (g1 66 1))) / 8) % ((kv_up g1 66 1 (kx_lcg (g1 66 1))) 66 3))))]) (st' := []) (h' := kv_wd g2 w) rfl ?_
        rw [← nI_succ]
        refine ih (i + 1) g2 _ _ (by omega) ⟨kx_M_cg (fun j hj j0 _ => k2 j j0 hj) M2, k1, ?_, fun x hx => by rw [k2 _ (by omega) (by omega)]; exact B2 x hx, fun j j1 hj => (k2 j (by omega) (by omega)).trans ((e66 j (by omega) (by omega)).trans (u5 j j1 hj)), fun b b1 b2 => (k3 b b1 b2).trans ((by rw [kv_up_ne b2, kv_up_ne b2] : _ = g1 b).trans (u6 b b1 b2)), fun z hz => (k4 z hz).trans (u7 z hz)⟩
        rw [k2 1 (by omega) (by omega)]
        show upd (upd (g1 66) 1 (kx_lcg (g1 66 1))) (20 + p) _ 1 = kx_lcg (kx_zn F0 s i S).2.2
        rw [kx_upn (by omega), kx_ups, u3]
      · refine kx_st 0 (pc' := 78) (L' := [some (.ref 65), some (.int (nI n)), some (.int (nI i)), some (.int (kx_dw (kx_lcg (g1 66 1)))), some (.int (20 + (((kx_dw (kx_lcg (g1 66 1))) / 8) % ((kv_up g1 66 1 (kx_lcg (g1 66 1))) 66 3))))]) (st' := [.int (20 + (((kx_dw (kx_lcg (g1 66 1))) / 8) % ((kv_up g1 66 1 (kx_lcg (g1 66 1))) 66 3))), .ref 66]) (h' := kv_wd (kv_up g1 66 1 (kx_lcg (g1 66 1))) w) rfl ?_
        refine kx_st 4 (pc' := 85) (L' := [some (.ref 65), some (.int (nI n)), some (.int (nI i)), some (.int (kx_dw (kx_lcg (g1 66 1)))), some (.int (20 + (((kx_dw (kx_lcg (g1 66 1))) / 8) % ((kv_up g1 66 1 (kx_lcg (g1 66 1))) 66 3))))]) (st' := [.int (20 + (((kx_dw (kx_lcg (g1 66 1))) / 8) % ((kv_up g1 66 1 (kx_lcg (g1 66 1))) 66 3))), .ref 66, .int 1, .int (20 + (((kx_dw (kx_lcg (g1 66 1))) / 8) % ((kv_up g1 66 1 (kx_lcg (g1 66 1))) 66 3))), .ref 66]) (h' := kv_wd (kv_up g1 66 1 (kx_lcg (g1 66 1))) w) rfl ?_
        refine kx_ia (k := (20 + p)) rfl rfl (by decide) (by show 20 + kx_dw (kx_lcg (g1 66 1)) / 8 % g1 66 3 = nI (20 + p); rw [u1.2.1.1, hpz]; exact kx_nadd 20 p) (by omega) (by decide) ?_
        refine kx_st 2 (pc' := 97) (L' := [some (.ref 65), some (.int (nI n)), some (.int (nI i)), some (.int (kx_dw (kx_lcg (g1 66 1)))), some (.int (20 + (((kx_dw (kx_lcg (g1 66 1))) / 8) % ((kv_up g1 66 1 (kx_lcg (g1 66 1))) 66 3))))]) (st' := [.int (1 - ((kv_up g1 66 1 (kx_lcg (g1 66 1))) 66 (20 + p))), .int (20 + (((kx_dw (kx_lcg (g1 66 1))) / 8) % ((kv_up g1 66 1 (kx_lcg (g1 66 1))) 66 3))), .ref 66]) (h' := kv_wd (kv_up g1 66 1 (kx_lcg (g1 66 1))) w) rfl ?_
        refine kx_is (k := (20 + p)) rfl rfl (by decide) (by show 20 + kx_dw (kx_lcg (g1 66 1)) / 8 % g1 66 3 = nI (20 + p); rw [u1.2.1.1, hpz]; exact kx_nadd 20 p) (by omega) (by decide) ?_
        refine kx_st 1 (pc' := 99) (L' := [some (.ref 65), some (.int (nI n)), some (.int (nI i)), some (.int (kx_dw (kx_lcg (g1 66 1)))), some (.int (20 + (((kx_dw (kx_lcg (g1 66 1))) / 8) % ((kv_up g1 66 1 (kx_lcg (g1 66 1))) 66 3))))]) (st' := [.ref 65]) (h' := kv_wd (kv_up (kv_up g1 66 1 (kx_lcg (g1 66 1))) 66 (20 + p) (1 - ((kv_up g1 66 1 (kx_lcg (g1 66 1))) 66 (20 + p)))) w) rfl ?_
        have h5 : kx_dw (kx_lcg (g1 66 1)) % 5 = 0 := (Classical.not_not.mp h75)
        have e20 : ∀ x, x < 6 → (kv_up (kv_up g1 66 1 (kx_lcg (g1 66 1))) 66 (20 + p) (1 - ((kv_up g1 66 1 (kx_lcg (g1 66 1))) 66 (20 + p)))) 66 (20 + x) = if x = p then 1 - g1 66 (20 + p) else g1 66 (20 + x) := by
          intro x hx
          show upd (upd (g1 66) 1 _) (20 + p) (1 - upd (g1 66) 1 _ (20 + p)) (20 + x) = _
          by_cases hxp : x = p
          · subst hxp; rw [kx_ups, if_pos rfl, kx_upn (by omega)]
          · rw [kx_upn (by omega), kx_upn (by omega), if_neg hxp]
        have e66 : ∀ j, j ≠ 1 → j ≠ 20 + p → (kv_up (kv_up g1 66 1 (kx_lcg (g1 66 1))) 66 (20 + p) (1 - ((kv_up g1 66 1 (kx_lcg (g1 66 1))) 66 (20 + p)))) 66 j = g1 66 j := fun j j1 j2 => (kx_upn j2).trans (kx_upn j1)
        have M2 : kx_M F0 F1 s (kx_ltt s (kx_zn F0 s i S).1 (kx_lcg (kx_zn F0 s i S).2.2)) m K ((kv_up (kv_up g1 66 1 (kx_lcg (g1 66 1))) 66 (20 + p) (1 - ((kv_up g1 66 1 (kx_lcg (g1 66 1))) 66 (20 + p)))) 66) := by
          refine kx_M_t (kx_ltt_lt hs2 hs6 ht) (fun j j1 hj => e66 j (by omega) (by omega)) (fun x hx => ?_) u1
          rw [e20 x (by omega), kx_ltt_bit hs2 hs6 ht hx, ← u3, ← ep]
          by_cases hxp : x = p
          · rw [if_pos hxp, if_pos (show kx_dw (kx_lcg (g1 66 1)) % 5 = 0 ∧ x = p from ⟨h5, hxp⟩), u1.2.2.1 p hp, hxp]
            cases ((kx_zn F0 s i S).1.testBit p) <;> rfl
          · rw [if_neg hxp, if_neg (show ¬ (kx_dw (kx_lcg (g1 66 1)) % 5 = 0 ∧ x = p) from fun z => hxp z.2)]; exact u1.2.2.1 x hx
        have B2 : ∀ x, x < 6 → (kv_up (kv_up g1 66 1 (kx_lcg (g1 66 1))) 66 (20 + p) (1 - ((kv_up g1 66 1 (kx_lcg (g1 66 1))) 66 (20 + p)))) 66 (20 + x) = 0 ∨ (kv_up (kv_up g1 66 1 (kx_lcg (g1 66 1))) 66 (20 + p) (1 - ((kv_up g1 66 1 (kx_lcg (g1 66 1))) 66 (20 + p)))) 66 (20 + x) = 1 := by
          intro x hx
          rw [e20 x hx]
          by_cases hxp : x = p
          · rw [if_pos hxp]
            rcases u4 p (by omega) with z | z
            · rw [z]; exact Or.inr rfl
            · rw [z]; exact Or.inl rfl
          · rw [if_neg hxp]; exact u4 x hx
        obtain ⟨g2, e99, k1, k2, k3, k4⟩ := ev_oneYear (E := E) (d := d) (g := kv_up (kv_up g1 66 1 (kx_lcg (g1 66 1))) 66 (20 + p) (1 - ((kv_up g1 66 1 (kx_lcg (g1 66 1))) 66 (20 + p)))) (w := w) M2 (kx_zn F0 s i S).2.1 ⟨fun x hx => ⟨(e66 _ (by omega) (by omega)).trans (u2.1 x hx).1, (e66 _ (by omega) (by omega)).trans (u2.1 x hx).2⟩, (e66 0 (by omega) (by omega)).trans u2.2⟩
        refine kx_call (z := 178) (as := [.ref 65]) (rest := []) (v := none) (h1 := kv_wd g2 w) rfl e99 ?_
        refine kx_st 0 (pc' := 102) (L' := [some (.ref 65), some (.int (nI n)), some (.int (nI i)), some (.int (kx_dw (kx_lcg (g1 66 1)))), some (.int (20 + (((kx_dw (kx_lcg (g1 66 1))) / 8) % ((kv_up g1 66 1 (kx_lcg (g1 66 1))) 66 3))))]) (st' := []) (h' := kv_wd g2 w) rfl ?_
        refine kx_st 2 (pc' := 40) (L' := [some (.ref 65), some (.int (nI n)), some (.int ((nI i) + 1)), some (.int (kx_dw (kx_lcg (g1 66 1)))), some (.int (20 + (((kx_dw (kx_lcg (g1 66 1))) / 8) % ((kv_up g1 66 1 (kx_lcg (g1 66 1))) 66 3))))]) (st' := []) (h' := kv_wd g2 w) rfl ?_
        rw [← nI_succ]
        refine ih (i + 1) g2 _ _ (by omega) ⟨kx_M_cg (fun j hj j0 _ => k2 j j0 hj) M2, k1, ?_, fun x hx => by rw [k2 _ (by omega) (by omega)]; exact B2 x hx, fun j j1 hj => (k2 j (by omega) (by omega)).trans ((e66 j (by omega) (by omega)).trans (u5 j j1 hj)), fun b b1 b2 => (k3 b b1 b2).trans ((by rw [kv_up_ne b2, kv_up_ne b2] : _ = g1 b).trans (u6 b b1 b2)), fun z hz => (k4 z hz).trans (u7 z hz)⟩
        rw [k2 1 (by omega) (by omega)]
        show upd (upd (g1 66) 1 (kx_lcg (g1 66 1))) (20 + p) _ 1 = kx_lcg (kx_zn F0 s i S).2.2
        rw [kx_upn (by omega), kx_ups, u3]
set_option maxRecDepth 100000 in
theorem pr_loose {E : kv_V} (a : Int32) : kx_ok2 E (kx_Rl kx_L) 94 183 [.int a] := by
  intro g w i hR hi
  obtain ⟨F0, F1, s, t, m, K, hF0, hF1, hX, hM, hKB, hKe⟩ := kx_Rl_XMK hR
  obtain ⟨q0, hq0, hm0, hb0, hy0⟩ := kx_Rl_q hR
  have q := hR.1
  have b1 := hX.2.1.1
  have b2 := hM.2.1.1
  have a1 := hX.1.1
  have a2 := hX.1.2.1
  have a4 := hX.1.2.2.2
  have d1 := hX.2.1.2.2
  have d2 := hM.2.1.2
  by_cases ha : 1 ≤ a ∧ a ≤ 40
  · obtain ⟨n, hn1, hn40, rfl⟩ := kx_1n (N := 40) ha (by omega)
    by_cases hy : q0.2.2 + n ≤ 999
    · refine kx_two (by decide) (Nat.le_of_ble_eq_true rfl) (by decide) (Nat.le_of_ble_eq_true rfl) ?_
      refine kx_st 0 (pc' := 0) (L' := [some (.ref 0), some (.int (nI n)), none]) (st' := []) (h' := kv_wd g w) rfl ?_
      refine kx_st 2 (pc' := 2) (L' := [some (.ref 0), some (.int (nI n)), none]) (st' := [.int 1, .int (nI n)]) (h' := kv_wd g w) rfl ?_
      refine kx_bi (t := 11) rfl rfl (fun (h2 : nI n < 1) => ?_) (fun (h2 : ¬ (nI n < 1)) => ?_)
      · exact absurd h2 (Int32.not_lt.mpr ha.1)
      · refine kx_st 0 (pc' := 5) (L' := [some (.ref 0), some (.int (nI n)), none]) (st' := []) (h' := kv_wd g w) rfl ?_
        refine kx_st 2 (pc' := 8) (L' := [some (.ref 0), some (.int (nI n)), none]) (st' := [.int 40, .int (nI n)]) (h' := kv_wd g w) rfl ?_
        refine kx_bi (t := 17) rfl rfl (fun (h8 : nI n ≤ 40) => ?_) (fun (h8 : ¬ (nI n ≤ 40)) => ?_)
        · refine kx_st 7 (pc' := 32) (L' := [some (.ref 0), some (.int (nI n)), none]) (st' := [.int 999, .int ((g 2 2) + (nI n))]) (h' := kv_wd g w) rfl ?_
          refine kx_bi (t := 41) rfl rfl (fun (h32 : (g 2 2) + (nI n) ≤ 999) => ?_) (fun (h32 : ¬ ((g 2 2) + (nI n) ≤ 999)) => ?_)
          · refine kx_st 2 (pc' := 43) (L' := [some (.ref 0), some (.int (nI n)), some (.int 0)]) (st' := []) (h' := kv_wd g w) rfl ?_
            refine lp_xloose (d := 893) n (by omega) (t, q0, g 1 11) g (fun g43 r43 => ?_) n 0 g (by omega) ⟨hX, hq0, rfl, fun _ _ _ => rfl, fun _ _ _ _ _ _ => rfl⟩
            obtain ⟨x1, x2, x3, x4, x5⟩ := r43
            refine kx_st 0 (pc' := 75) (L' := [some (.ref 0), some (.int (nI n)), some (.int (nI n))]) (st' := []) (h' := kv_wd g43 w) rfl ?_
            refine kx_st 6 (pc' := 89) (L' := [some (.ref 0), some (.int (nI n)), some (.int (nI n))]) (st' := [.int (g43 1 0), .ref 2]) (h' := kv_wd g43 w) rfl ?_
            refine kx_call (z := 6) (as := [.ref 2, .int (g43 1 0)]) (rest := []) (v := some (.int (kx_sum (fun j => g43 3 j + g43 4 j) s))) (h1 := kv_wd g43 w) rfl (by rw [x1.2.1.1]; exact ev_together (d := 898) (g := g43) kv_hd2 s a2) ?_
            refine kx_st 0 (pc' := 92) (L' := [some (.ref 0), some (.int (nI n)), some (.int (nI n))]) (st' := [.int (kx_sum (fun j => g43 3 j + g43 4 j) s)]) (h' := kv_wd g43 w) rfl ?_
            refine kx_ret (v := some (.int (kx_sum (fun j => g43 3 j + g43 4 j) s))) rfl ?_
            refine ⟨_, _, _, rfl, rfl, ?_⟩
            refine kx_st 0 (pc' := 0) (L' := [some (.ref 65), some (.int (nI n)), none, none, none]) (st' := []) (h' := kv_wd g43 w) rfl ?_
            refine kx_st 3 (pc' := 4) (L' := [some (.ref 65), some (.int (nI n)), none, none, none]) (st' := [.int 40, .int 1, .int (nI n)]) (h' := kv_wd g43 w) rfl ?_
            refine kx_call (z := 130) (as := [.int (nI n), .int 1, .int 40]) (rest := []) (v := some (.int (kx_b (1 ≤ nI n ∧ nI n ≤ 40)))) (h1 := kv_wd g43 w) rfl (ev_in (d := 898) (nI n) 1 40) ?_
            refine kx_st 0 (pc' := 7) (L' := [some (.ref 65), some (.int (nI n)), none, none, none]) (st' := [.int (kx_b (1 ≤ nI n ∧ nI n ≤ 40))]) (h' := kv_wd g43 w) rfl ?_
            refine kx_bn (t := 17) rfl rfl (fun (m7 : (1 ≤ nI n ∧ nI n ≤ 40)) => ?_) (fun (m7 : ¬ (1 ≤ nI n ∧ nI n ≤ 40)) => ?_)
            · refine kx_st 3 (pc' := 22) (L' := [some (.ref 65), some (.int (nI n)), none, none, none]) (st' := [.int 0, .ref 66]) (h' := kv_wd g43 w) rfl ?_
              refine kx_ia (k := 0) rfl rfl (by decide) rfl (by decide) (by decide) ?_
              refine kx_st 3 (pc' := 28) (L' := [some (.ref 65), some (.int (nI n)), none, none, none]) (st' := [.int 999, .int ((g43 66 0) + (nI n))]) (h' := kv_wd g43 w) rfl ?_
              refine kx_bi (t := 38) rfl rfl (fun (m28 : (g43 66 0) + (nI n) ≤ 999) => ?_) (fun (m28 : ¬ ((g43 66 0) + (nI n) ≤ 999)) => ?_)
              · refine kx_st 2 (pc' := 40) (L' := [some (.ref 65), some (.int (nI n)), some (.int 0), none, none]) (st' := []) (h' := kv_wd g43 w) rfl ?_
                refine lp_mloose (d := 798) n (by omega) (t, q0, g 1 11) g43 (fun g40 z3 z4 r40 => ?_) n 0 g43 _ _ (by omega) ⟨by rw [(x5 66 (by omega) (by omega) (by omega) (by omega) (by omega))]; exact hM, by rw [(x5 66 (by omega) (by omega) (by omega) (by omega) (by omega))]; exact hm0, by rw [(x5 66 (by omega) (by omega) (by omega) (by omega) (by omega))]; exact hR.2.2.1.2.2.2.2.2.1.symm, fun p hp => by rw [(x5 66 (by omega) (by omega) (by omega) (by omega) (by omega))]; exact kx_H2t hR hp, fun _ _ _ => rfl, fun _ _ _ => rfl, fun _ _ => rfl⟩
                obtain ⟨w1, w2, w3, w4, w5, w6, w7⟩ := r40
                refine kx_st 0 (pc' := 108) (L' := [some (.ref 65), some (.int (nI n)), some (.int (nI n)), z3, z4]) (st' := []) (h' := kv_wd g40 w) rfl ?_
                refine kx_st 1 (pc' := 109) (L' := [some (.ref 65), some (.int (nI n)), some (.int (nI n)), z3, z4]) (st' := [.ref 65]) (h' := kv_wd g40 w) rfl ?_
                refine kx_call (z := 180) (as := [.ref 65]) (rest := []) (v := some (.int (kx_sum (fun j => g40 66 (8 + j) + g40 66 (14 + j)) s))) (h1 := kv_wd g40 w) rfl (ev_hands (d := 897) (g := g40) s a2 w1.2.1.1) ?_
                refine kx_st 0 (pc' := 112) (L' := [some (.ref 65), some (.int (nI n)), some (.int (nI n)), z3, z4]) (st' := [.int (kx_sum (fun j => g40 66 (8 + j) + g40 66 (14 + j)) s)]) (h' := kv_wd g40 w) rfl ?_
                refine kx_ret (v := some (.int (kx_sum (fun j => g40 66 (8 + j) + g40 66 (14 + j)) s))) rfl ?_
                have ea : kx_sum (fun j => g40 66 (8 + j) + g40 66 (14 + j)) s = kx_sum (fun j => g43 3 j + g43 4 j) s := kx_sum_congr (fun j hj => by rw [show g40 66 (8 + j) = _ from (w2.1 j (by omega)).1, show g40 66 (14 + j) = _ from (w2.1 j (by omega)).2, (x2.1 j (by omega)).1, (x2.1 j (by omega)).2])
                refine ⟨by rw [ea], _, _, rfl, kx_Rl_gen hR rfl (kx_zn F0 s n (t, q0, g 1 11)).2.1 (by rw [w6 3 (by omega) (by omega), w6 4 (by omega) (by omega), w6 2 (by omega) (by omega)]; exact x2) w2 (kx_zn_b hF0 hb0 n) (by rw [kx_zn_y]; exact hy) b1 a2 (kx_zn_lt a1 a2 hX.1.2.2.1 n) (by rw [w6 1 (by omega) (by omega)]; exact x1.2.1.2.1) w1.2.2.1 w4 (by rw [w6 1 (by omega) (by omega), x3, w3]) (fun k k1 k11 => by rw [w6 1 (by omega) (by omega)]; exact x4 k k1 k11) (fun b b1 b2 b3 b4 b8 b11 b44 b65 b66 b68 b69 => (w6 b b65 b66).trans (x5 b b1 b8 b2 b3 b4)) (fun k hk => (w7 k hk).trans (congrFun (x5 65 (by omega) (by omega) (by omega) (by omega) (by omega)) k)) (fun j j1 hj _ => (w5 j j1 hj).trans (congrFun (x5 66 (by omega) (by omega) (by omega) (by omega) (by omega)) j))⟩
              · exact absurd (by rw [(x5 66 (by omega) (by omega) (by omega) (by omega) (by omega)), show g 66 0 = _ from hm0.2]; exact (kx_yle hy0 (by omega)).mpr hy) m28
            · exact absurd ha m7
          · exact absurd (by rw [show g 2 2 = _ from hq0.2]; exact (kx_yle hy0 (by omega)).mpr hy) h32
        · exact absurd ha.2 h8
    · refine kx_two (by decide) (Nat.le_of_ble_eq_true rfl) (by decide) (Nat.le_of_ble_eq_true rfl) ?_
      refine kx_st 0 (pc' := 0) (L' := [some (.ref 0), some (.int (nI n)), none]) (st' := []) (h' := kv_wd g w) rfl ?_
      refine kx_st 2 (pc' := 2) (L' := [some (.ref 0), some (.int (nI n)), none]) (st' := [.int 1, .int (nI n)]) (h' := kv_wd g w) rfl ?_
      refine kx_bi (t := 11) rfl rfl (fun (h2 : nI n < 1) => ?_) (fun (h2 : ¬ (nI n < 1)) => ?_)
      · exact absurd h2 (Int32.not_lt.mpr ha.1)
      · refine kx_st 0 (pc' := 5) (L' := [some (.ref 0), some (.int (nI n)), none]) (st' := []) (h' := kv_wd g w) rfl ?_
        refine kx_st 2 (pc' := 8) (L' := [some (.ref 0), some (.int (nI n)), none]) (st' := [.int 40, .int (nI n)]) (h' := kv_wd g w) rfl ?_
        refine kx_bi (t := 17) rfl rfl (fun (h8 : nI n ≤ 40) => ?_) (fun (h8 : ¬ (nI n ≤ 40)) => ?_)
        · refine kx_st 7 (pc' := 32) (L' := [some (.ref 0), some (.int (nI n)), none]) (st' := [.int 999, .int ((g 2 2) + (nI n))]) (h' := kv_wd g w) rfl ?_
          refine kx_bi (t := 41) rfl rfl (fun (h32 : (g 2 2) + (nI n) ≤ 999) => ?_) (fun (h32 : ¬ ((g 2 2) + (nI n) ≤ 999)) => ?_)
          · exact absurd ((kx_yle hy0 (by omega)).mp (by rw [show g 2 2 = _ from hq0.2] at h32; exact h32)) hy
          · refine kx_st 0 (pc' := 35) (L' := [some (.ref 0), some (.int (nI n)), none]) (st' := []) (h' := kv_wd g w) rfl ?_
            refine kx_st 2 (pc' := 37) (L' := [some (.ref 0), some (.int (nI n)), none]) (st' := [.int 3, .ref 0]) (h' := kv_wd g w) rfl ?_
            refine kx_call (z := 123) (as := [.ref 0, .int 3]) (rest := []) (v := some (.int (-1000000000 - nI 3))) (h1 := kv_wd (kv_up g 64 3 (g 64 3 + 1)) w) rfl (ev_error (d := 898) 3 (by decide) (by decide)) ?_
            refine kx_st 0 (pc' := 40) (L' := [some (.ref 0), some (.int (nI n)), none]) (st' := [.int (-1000000000 - nI 3)]) (h' := kv_wd (kv_up g 64 3 (g 64 3 + 1)) w) rfl ?_
            refine kx_ret (v := some (.int (-1000000000 - nI 3))) rfl ?_
            refine ⟨_, _, _, rfl, rfl, ?_⟩
            refine kx_st 0 (pc' := 0) (L' := [some (.ref 65), some (.int (nI n)), none, none, none]) (st' := []) (h' := kv_wd (kv_up g 64 3 (g 64 3 + 1)) w) rfl ?_
            refine kx_st 3 (pc' := 4) (L' := [some (.ref 65), some (.int (nI n)), none, none, none]) (st' := [.int 40, .int 1, .int (nI n)]) (h' := kv_wd (kv_up g 64 3 (g 64 3 + 1)) w) rfl ?_
            refine kx_call (z := 130) (as := [.int (nI n), .int 1, .int 40]) (rest := []) (v := some (.int (kx_b (1 ≤ nI n ∧ nI n ≤ 40)))) (h1 := kv_wd (kv_up g 64 3 (g 64 3 + 1)) w) rfl (ev_in (d := 898) (nI n) 1 40) ?_
            refine kx_st 0 (pc' := 7) (L' := [some (.ref 65), some (.int (nI n)), none, none, none]) (st' := [.int (kx_b (1 ≤ nI n ∧ nI n ≤ 40))]) (h' := kv_wd (kv_up g 64 3 (g 64 3 + 1)) w) rfl ?_
            refine kx_bn (t := 17) rfl rfl (fun (m7 : (1 ≤ nI n ∧ nI n ≤ 40)) => ?_) (fun (m7 : ¬ (1 ≤ nI n ∧ nI n ≤ 40)) => ?_)
            · refine kx_st 3 (pc' := 22) (L' := [some (.ref 65), some (.int (nI n)), none, none, none]) (st' := [.int 0, .ref 66]) (h' := kv_wd (kv_up g 64 3 (g 64 3 + 1)) w) rfl ?_
              refine kx_ia (k := 0) rfl rfl (by decide) rfl (by decide) (by decide) ?_
              refine kx_st 3 (pc' := 28) (L' := [some (.ref 65), some (.int (nI n)), none, none, none]) (st' := [.int 999, .int (((kv_up g 64 3 (g 64 3 + 1)) 66 0) + (nI n))]) (h' := kv_wd (kv_up g 64 3 (g 64 3 + 1)) w) rfl ?_
              refine kx_bi (t := 38) rfl rfl (fun (m28 : ((kv_up g 64 3 (g 64 3 + 1)) 66 0) + (nI n) ≤ 999) => ?_) (fun (m28 : ¬ (((kv_up g 64 3 (g 64 3 + 1)) 66 0) + (nI n) ≤ 999)) => ?_)
              · exact absurd ((kx_yle hy0 (show n ≤ 60 by omega)).mp (by have z := hm0.2; have z2 : g 66 0 + nI n ≤ 999 := m28; rw [show g 66 0 = _ from z] at z2; exact z2)) hy
              · refine kx_st 0 (pc' := 31) (L' := [some (.ref 65), some (.int (nI n)), none, none, none]) (st' := []) (h' := kv_wd (kv_up g 64 3 (g 64 3 + 1)) w) rfl ?_
                refine kx_st 2 (pc' := 34) (L' := [some (.ref 65), some (.int (nI n)), none, none, none]) (st' := [.int (-1000000003), .ref 65]) (h' := kv_wd (kv_up g 64 3 (g 64 3 + 1)) w) rfl ?_
                refine kx_call (z := 131) (as := [.ref 65, .int (-1000000003)]) (rest := []) (v := some (.int (-1000000003))) (h1 := kv_wd (kv_up (kv_up g 64 3 (g 64 3 + 1)) 70 3 ((kv_up g 64 3 (g 64 3 + 1)) 70 3 + 1)) w) rfl (ev_errs (d := 898) (-1000000003) 3 (by decide) (by decide)) ?_
                refine kx_st 0 (pc' := 37) (L' := [some (.ref 65), some (.int (nI n)), none, none, none]) (st' := [.int (-1000000003)]) (h' := kv_wd (kv_up (kv_up g 64 3 (g 64 3 + 1)) 70 3 ((kv_up g 64 3 (g 64 3 + 1)) 70 3 + 1)) w) rfl ?_
                refine kx_ret (v := some (.int (-1000000003))) rfl ?_
                exact ⟨rfl, _, _, rfl, kx_Rl_e hR⟩
            · exact absurd ha m7
        · exact absurd ha.2 h8
  · refine kx_two (by decide) (Nat.le_of_ble_eq_true rfl) (by decide) (Nat.le_of_ble_eq_true rfl) ?_
    refine kx_st 0 (pc' := 0) (L' := [some (.ref 0), some (.int a), none]) (st' := []) (h' := kv_wd g w) rfl ?_
    refine kx_st 2 (pc' := 2) (L' := [some (.ref 0), some (.int a), none]) (st' := [.int 1, .int a]) (h' := kv_wd g w) rfl ?_
    refine kx_bi (t := 11) rfl rfl (fun (h2 : a < 1) => ?_) (fun (h2 : ¬ (a < 1)) => ?_)
    · refine kx_st 2 (pc' := 13) (L' := [some (.ref 0), some (.int a), none]) (st' := [.int 1, .ref 0]) (h' := kv_wd g w) rfl ?_
      refine kx_call (z := 123) (as := [.ref 0, .int 1]) (rest := []) (v := some (.int (-1000000000 - nI 1))) (h1 := kv_wd (kv_up g 64 1 (g 64 1 + 1)) w) rfl (ev_error (d := 898) 1 (by decide) (by decide)) ?_
      refine kx_st 0 (pc' := 16) (L' := [some (.ref 0), some (.int a), none]) (st' := [.int (-1000000000 - nI 1)]) (h' := kv_wd (kv_up g 64 1 (g 64 1 + 1)) w) rfl ?_
      refine kx_ret (v := some (.int (-1000000000 - nI 1))) rfl ?_
      refine ⟨_, _, _, rfl, rfl, ?_⟩
      refine kx_st 0 (pc' := 0) (L' := [some (.ref 65), some (.int a), none, none, none]) (st' := []) (h' := kv_wd (kv_up g 64 1 (g 64 1 + 1)) w) rfl ?_
      refine kx_st 3 (pc' := 4) (L' := [some (.ref 65), some (.int a), none, none, none]) (st' := [.int 40, .int 1, .int a]) (h' := kv_wd (kv_up g 64 1 (g 64 1 + 1)) w) rfl ?_
      refine kx_call (z := 130) (as := [.int a, .int 1, .int 40]) (rest := []) (v := some (.int (kx_b (1 ≤ a ∧ a ≤ 40)))) (h1 := kv_wd (kv_up g 64 1 (g 64 1 + 1)) w) rfl (ev_in (d := 898) a 1 40) ?_
      refine kx_st 0 (pc' := 7) (L' := [some (.ref 65), some (.int a), none, none, none]) (st' := [.int (kx_b (1 ≤ a ∧ a ≤ 40))]) (h' := kv_wd (kv_up g 64 1 (g 64 1 + 1)) w) rfl ?_
      refine kx_bn (t := 17) rfl rfl (fun (m7 : (1 ≤ a ∧ a ≤ 40)) => ?_) (fun (m7 : ¬ (1 ≤ a ∧ a ≤ 40)) => ?_)
      · exact absurd m7 ha
      · refine kx_st 0 (pc' := 10) (L' := [some (.ref 65), some (.int a), none, none, none]) (st' := []) (h' := kv_wd (kv_up g 64 1 (g 64 1 + 1)) w) rfl ?_
        refine kx_st 2 (pc' := 13) (L' := [some (.ref 65), some (.int a), none, none, none]) (st' := [.int (-1000000001), .ref 65]) (h' := kv_wd (kv_up g 64 1 (g 64 1 + 1)) w) rfl ?_
        refine kx_call (z := 131) (as := [.ref 65, .int (-1000000001)]) (rest := []) (v := some (.int (-1000000001))) (h1 := kv_wd (kv_up (kv_up g 64 1 (g 64 1 + 1)) 70 1 ((kv_up g 64 1 (g 64 1 + 1)) 70 1 + 1)) w) rfl (ev_errs (d := 898) (-1000000001) 1 (by decide) (by decide)) ?_
        refine kx_st 0 (pc' := 16) (L' := [some (.ref 65), some (.int a), none, none, none]) (st' := [.int (-1000000001)]) (h' := kv_wd (kv_up (kv_up g 64 1 (g 64 1 + 1)) 70 1 ((kv_up g 64 1 (g 64 1 + 1)) 70 1 + 1)) w) rfl ?_
        refine kx_ret (v := some (.int (-1000000001))) rfl ?_
        exact ⟨rfl, _, _, rfl, kx_Rl_e hR⟩
    · refine kx_st 0 (pc' := 5) (L' := [some (.ref 0), some (.int a), none]) (st' := []) (h' := kv_wd g w) rfl ?_
      refine kx_st 2 (pc' := 8) (L' := [some (.ref 0), some (.int a), none]) (st' := [.int 40, .int a]) (h' := kv_wd g w) rfl ?_
      refine kx_bi (t := 17) rfl rfl (fun (h8 : a ≤ 40) => ?_) (fun (h8 : ¬ (a ≤ 40)) => ?_)
      · exact absurd ⟨Int32.not_lt.mp h2, h8⟩ ha
      · refine kx_st 0 (pc' := 11) (L' := [some (.ref 0), some (.int a), none]) (st' := []) (h' := kv_wd g w) rfl ?_
        refine kx_st 2 (pc' := 13) (L' := [some (.ref 0), some (.int a), none]) (st' := [.int 1, .ref 0]) (h' := kv_wd g w) rfl ?_
        refine kx_call (z := 123) (as := [.ref 0, .int 1]) (rest := []) (v := some (.int (-1000000000 - nI 1))) (h1 := kv_wd (kv_up g 64 1 (g 64 1 + 1)) w) rfl (ev_error (d := 898) 1 (by decide) (by decide)) ?_
        refine kx_st 0 (pc' := 16) (L' := [some (.ref 0), some (.int a), none]) (st' := [.int (-1000000000 - nI 1)]) (h' := kv_wd (kv_up g 64 1 (g 64 1 + 1)) w) rfl ?_
        refine kx_ret (v := some (.int (-1000000000 - nI 1))) rfl ?_
        refine ⟨_, _, _, rfl, rfl, ?_⟩
        refine kx_st 0 (pc' := 0) (L' := [some (.ref 65), some (.int a), none, none, none]) (st' := []) (h' := kv_wd (kv_up g 64 1 (g 64 1 + 1)) w) rfl ?_
        refine kx_st 3 (pc' := 4) (L' := [some (.ref 65), some (.int a), none, none, none]) (st' := [.int 40, .int 1, .int a]) (h' := kv_wd (kv_up g 64 1 (g 64 1 + 1)) w) rfl ?_
        refine kx_call (z := 130) (as := [.int a, .int 1, .int 40]) (rest := []) (v := some (.int (kx_b (1 ≤ a ∧ a ≤ 40)))) (h1 := kv_wd (kv_up g 64 1 (g 64 1 + 1)) w) rfl (ev_in (d := 898) a 1 40) ?_
        refine kx_st 0 (pc' := 7) (L' := [some (.ref 65), some (.int a), none, none, none]) (st' := [.int (kx_b (1 ≤ a ∧ a ≤ 40))]) (h' := kv_wd (kv_up g 64 1 (g 64 1 + 1)) w) rfl ?_
        refine kx_bn (t := 17) rfl rfl (fun (m7 : (1 ≤ a ∧ a ≤ 40)) => ?_) (fun (m7 : ¬ (1 ≤ a ∧ a ≤ 40)) => ?_)
        · exact absurd m7 ha
        · refine kx_st 0 (pc' := 10) (L' := [some (.ref 65), some (.int a), none, none, none]) (st' := []) (h' := kv_wd (kv_up g 64 1 (g 64 1 + 1)) w) rfl ?_
          refine kx_st 2 (pc' := 13) (L' := [some (.ref 65), some (.int a), none, none, none]) (st' := [.int (-1000000001), .ref 65]) (h' := kv_wd (kv_up g 64 1 (g 64 1 + 1)) w) rfl ?_
          refine kx_call (z := 131) (as := [.ref 65, .int (-1000000001)]) (rest := []) (v := some (.int (-1000000001))) (h1 := kv_wd (kv_up (kv_up g 64 1 (g 64 1 + 1)) 70 1 ((kv_up g 64 1 (g 64 1 + 1)) 70 1 + 1)) w) rfl (ev_errs (d := 898) (-1000000001) 1 (by decide) (by decide)) ?_
          refine kx_st 0 (pc' := 16) (L' := [some (.ref 65), some (.int a), none, none, none]) (st' := [.int (-1000000001)]) (h' := kv_wd (kv_up (kv_up g 64 1 (g 64 1 + 1)) 70 1 ((kv_up g 64 1 (g 64 1 + 1)) 70 1 + 1)) w) rfl ?_
          refine kx_ret (v := some (.int (-1000000001))) rfl ?_
          exact ⟨rfl, _, _, rfl, kx_Rl_e hR⟩
