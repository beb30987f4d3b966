/-! TEXTS: one claim of both readers at a place -/
theorem kx_CR_u {g g1 g2 : kv_S} {a1 a2 ln : Nat} {ok : Bool} {cd : List Int32} (r : kx_CR g g1 a1 true ln []) (r2 : kx_CR g1 g2 a2 ok ln cd) : kx_CR g g2 a2 ok ln cd := kx_CR_t (c1 := []) r r2
theorem kx_CS_u {tx : Nat → Int32} {n u a ln a1 : Nat} {g g' : kv_S} (h : kx_CS tx n u g a ln) (r : kx_CR g g' a1 true ln []) : kx_CS tx n u g' a1 ln := kx_CS_of (cd := []) h r
def kx_ob (ok : Bool) : Int32 := match ok with
  | true => 1
  | false => 0
def kx_PX (tx : Nat → Int32) (n u y : Nat) (as : List Value) (hx a : Nat) (ok : Bool) (a1 : Nat) (cd : List Int32) : Prop := ∀ (E : kv_V) (d : Nat) (g : kv_S) (w : kv_W) (ln : Nat), E 1002 = some (1, 6, kv_NA) → kx_CS tx n u g a ln → ln + (n - a) ≤ 50 → ∃ g' : kv_S, kv_ev E (d + hx) y (.ref 48 :: as) (kv_wd g w) (some (.int (kx_ob ok))) (kv_wd g' w) ∧ kx_CR g g' a1 ok ln cd
def kx_PM (tx : Nat → Int32) (n u y hm op a : Nat) (ok : Bool) (a1 : Nat) (cd : List Int32) : Prop := ∀ A B C : Int32, ∃ v : Int32, (ok = true → ∀ st, kx_ex A B C cd st = v :: st) ∧ ∀ (E : kv_V) (d : Nat) (g : kv_S) (w : kv_W), kx_RS tx n u g a op A B C → ∃ g' : kv_S, kv_ev E (d + hm) y [.ref 65] (kv_wd g w) (some (.int v)) (kv_wd g' w) ∧ kx_RG g g' a1 op ok
def kx_PB (n a : Nat) (ok : Bool) (a1 : Nat) (cd : List Int32) : Prop := (a ≤ a1 ∧ a1 ≤ n) ∧ (ok = true → a < a1 ∧ cd.length ≤ a1 - a ∧ 2 * kx_nv cd ≤ a1 - a + 1)
def kx_PC (tx : Nat → Int32) (n u y : Nat) (as : List Value) (hx ym hm op a : Nat) : Prop := ∃ (ok : Bool) (a1 : Nat) (cd : List Int32), kx_PB n a ok a1 cd ∧ kx_PX tx n u y as hx a ok a1 cd ∧ kx_PM tx n u ym hm op a ok a1 cd
def kx_PQ (tx : Nat → Int32) (n u op a : Nat) : Prop := kx_PC tx n u 49 [.int (nI op)] (8 * (5 - op) + 3) 160 (6 * (5 - op) + 4) op a
def kx_PL (tx : Nat → Int32) (n u : Nat) (lv : Int32) (kx ym op a : Nat) : Prop := kx_PC tx n u 47 [.int lv, .int (nI op)] (8 * (5 - op) + kx) ym (6 * (5 - op) + kx) op a
theorem kx_RG_op {g G g3 : kv_S} {a2 op : Nat} {ok : Bool} (e : ∀ b, b ≠ 65 → G b = g b) (e65 : ∀ k, k ≠ 8 → k ≠ 10 → G 65 k = g 65 k) (r : kx_RG G g3 a2 (op + 1) ok) : kx_RG g (kv_up g3 65 10 (g3 65 10 - 1)) a2 op ok := by
  obtain ⟨r1, r2, r3, r4, r5⟩ := r
  refine ⟨fun b hb => (kv_up_ne hb).trans ((r1 b hb).trans (e b hb)), r2, ?_, r4, fun k k8 k10 k14 => (show upd (g3 65) 10 _ k = _ from kx_upn k10).trans ((r5 k k8 k10 k14).trans (e65 k k8 k10))⟩
  show g3 65 10 - 1 = nI op
  rw [r3, nI_pred]
theorem ev_nm_0_118 {E : kv_V} {d : Nat} {g : kv_S} {w : kv_W} (hE : E 1002 = some (1, 6, kv_NA)) (hu : g 48 4 = 0) : kv_ev E (d + 1) 54 [.ref 48, .int 118] (kv_wd g w) (some (.int 1)) (kv_wd g w) := by
  have z := ev_nameOf_0 (d := d) (w := w) hE hu 118
  rw [if_pos rfl] at z
  exact z
theorem ev_nm_0_107 {E : kv_V} {d : Nat} {g : kv_S} {w : kv_W} (hE : E 1002 = some (1, 6, kv_NA)) (hu : g 48 4 = 0) : kv_ev E (d + 1) 54 [.ref 48, .int 107] (kv_wd g w) (some (.int 2)) (kv_wd g w) := by
  have z := ev_nameOf_0 (d := d) (w := w) hE hu 107
  rw [if_neg (by decide), if_pos rfl] at z
  exact z
theorem ev_nm_0_121 {E : kv_V} {d : Nat} {g : kv_S} {w : kv_W} (hE : E 1002 = some (1, 6, kv_NA)) (hu : g 48 4 = 0) : kv_ev E (d + 1) 54 [.ref 48, .int 121] (kv_wd g w) (some (.int 3)) (kv_wd g w) := by
  have z := ev_nameOf_0 (d := d) (w := w) hE hu 121
  rw [if_neg (by decide), if_neg (by decide), if_pos rfl] at z
  exact z
theorem ev_nm_0_n {E : kv_V} {d : Nat} {g : kv_S} {w : kv_W} (hE : E 1002 = some (1, 6, kv_NA)) (hu : g 48 4 = 0) (x : Int32) (h : ¬ x = 118 ∧ ¬ x = 107 ∧ ¬ x = 121) : kv_ev E (d + 1) 54 [.ref 48, .int x] (kv_wd g w) (some (.int 0)) (kv_wd g w) := by
  have z := ev_nameOf_0 (d := d) (w := w) hE hu x
  rw [if_neg h.1, if_neg h.2.1, if_neg h.2.2] at z
  exact z
theorem ev_nm_1_100 {E : kv_V} {d : Nat} {g : kv_S} {w : kv_W} (hE : E 1002 = some (1, 6, kv_NA)) (hu : g 48 4 = 1) : kv_ev E (d + 1) 54 [.ref 48, .int 100] (kv_wd g w) (some (.int 1)) (kv_wd g w) := by
  have z := ev_nameOf_1 (d := d) (w := w) hE hu 100
  rw [if_pos rfl] at z
  exact z
theorem ev_nm_1_109 {E : kv_V} {d : Nat} {g : kv_S} {w : kv_W} (hE : E 1002 = some (1, 6, kv_NA)) (hu : g 48 4 = 1) : kv_ev E (d + 1) 54 [.ref 48, .int 109] (kv_wd g w) (some (.int 2)) (kv_wd g w) := by
  have z := ev_nameOf_1 (d := d) (w := w) hE hu 109
  rw [if_neg (by decide), if_pos rfl] at z
  exact z
theorem ev_nm_1_108 {E : kv_V} {d : Nat} {g : kv_S} {w : kv_W} (hE : E 1002 = some (1, 6, kv_NA)) (hu : g 48 4 = 1) : kv_ev E (d + 1) 54 [.ref 48, .int 108] (kv_wd g w) (some (.int 3)) (kv_wd g w) := by
  have z := ev_nameOf_1 (d := d) (w := w) hE hu 108
  rw [if_neg (by decide), if_neg (by decide), if_pos rfl] at z
  exact z
theorem ev_nm_1_n {E : kv_V} {d : Nat} {g : kv_S} {w : kv_W} (hE : E 1002 = some (1, 6, kv_NA)) (hu : g 48 4 = 1) (x : Int32) (h : ¬ x = 100 ∧ ¬ x = 109 ∧ ¬ x = 108) : kv_ev E (d + 1) 54 [.ref 48, .int x] (kv_wd g w) (some (.int 0)) (kv_wd g w) := by
  have z := ev_nameOf_1 (d := d) (w := w) hE hu x
  rw [if_neg h.1, if_neg h.2.1, if_neg h.2.2] at z
  exact z
set_option maxRecDepth 100000 in
theorem kx_not {tx : Nat → Int32} {n u op a a2 hx : Nat} {ok : Bool} {cd : List Int32} (hx1 : 1 ≤ hx) (han : a < n) (hb : kx_PB n (a + 1) ok a2 cd) (h : kx_PX tx n u 49 [.int (nI op)] hx (a + 1) ok a2 cd) : kx_PX tx n u 50 [.int (nI op)] (hx + 1) a ok a2 (cd ++ [-33]) := by
  intro E d g w ln hE hs hln
  have r1 := (kx_CR_up hs (g 48 3 + 1) (by rw [hs.2.1, nI_succ]))
  obtain ⟨g2, e2, r2⟩ := h E d _ w ln hE (kx_CS_u hs r1) (by omega)
  cases ok with
  | true =>
    obtain ⟨v0, hf, he, rfl, g', rfl, hh⟩ := kx_evP (E := E) (d := d + (hx)) (y := 50) (h := kv_wd g w) (as := [.ref 48, .int (nI op)]) (P := fun v0 h => v0 = (some (.int 1) : Option Value) ∧ ∃ g' : kv_S, h = kv_wd g' w ∧ kx_CR g g' a2 true ln (cd ++ [-33])) (by decide) (Nat.le_of_ble_eq_true rfl) (by
      refine kx_st 0 (pc' := 0) (L' := [some (.ref 48), some (.int (nI op))]) (st' := []) (h' := kv_wd g w) rfl ?_
      refine kx_st 5 (pc' := 7) (L' := [some (.ref 48), some (.int (nI op))]) (st' := [.int ((g 48 3) + 1), .ref 48]) (h' := kv_wd g w) rfl ?_
      refine kx_pf (i := 28) (k := 3) (x := ((g 48 3) + 1)) rfl rfl (by decide) rfl (Nat.le_of_ble_eq_true rfl) rfl rfl rfl ?_
      refine kx_st 2 (pc' := 12) (L' := [some (.ref 48), some (.int (nI op))]) (st' := [.int (nI op), .ref 48]) (h' := kv_wd (kv_up g 48 3 ((g 48 3) + 1)) w) rfl ?_
      refine kx_call (z := 49) (as := [.ref 48, .int (nI op)]) (rest := []) (v := some (.int 1)) (h1 := kv_wd g2 w) rfl (kx_ev_le (by omega) e2) ?_
      refine kx_st 0 (pc' := 15) (L' := [some (.ref 48), some (.int (nI op))]) (st' := [.int 1]) (h' := kv_wd g2 w) rfl ?_
      refine kx_st 1 (pc' := 20) (L' := [some (.ref 48), some (.int (nI op))]) (st' := []) (h' := kv_wd g2 w) rfl ?_
      refine kx_st 3 (pc' := 26) (L' := [some (.ref 48), some (.int (nI op))]) (st' := [.int (-33), .ref 49]) (h' := kv_wd g2 w) rfl ?_
      refine kx_call (z := 38) (as := [.ref 49, .int (-33)]) (rest := []) (v := none) (h1 := kv_wd (kv_up (kv_up g2 50 (ln + cd.length) (-33)) 49 2 (nI (ln + cd.length + 1))) w) rfl (kx_ev_le (d := 0 + 1) (by omega) (ev_add (d := 0) (ln + cd.length) (kx_CS_of (kx_CS_u hs r1) r2).2.2.2.2 (by have := (hb.2 rfl).2.1; have := hb.1; omega) (-33))) ?_
      refine kx_st 0 (pc' := 29) (L' := [some (.ref 48), some (.int (nI op))]) (st' := []) (h' := kv_wd (kv_up (kv_up g2 50 (ln + cd.length) (-33)) 49 2 (nI (ln + cd.length + 1))) w) rfl ?_
      refine kx_st 1 (pc' := 30) (L' := [some (.ref 48), some (.int (nI op))]) (st' := [.int 1]) (h' := kv_wd (kv_up (kv_up g2 50 (ln + cd.length) (-33)) 49 2 (nI (ln + cd.length + 1))) w) rfl ?_
      refine kx_ret (v := some (.int 1)) rfl ?_
      exact ⟨rfl, _, rfl, kx_CR_u r1 (kx_CR_t r2 (kx_CR_add (kx_CS_of (kx_CS_u hs r1) r2) (-33)))⟩)
    exact ⟨g', kx_ev_le (by omega) he, hh⟩
  | false =>
    obtain ⟨v0, hf, he, rfl, g', rfl, hh⟩ := kx_evP (E := E) (d := d + (hx)) (y := 50) (h := kv_wd g w) (as := [.ref 48, .int (nI op)]) (P := fun v0 h => v0 = (some (.int 0) : Option Value) ∧ ∃ g' : kv_S, h = kv_wd g' w ∧ kx_CR g g' a2 false ln (cd ++ [-33])) (by decide) (Nat.le_of_ble_eq_true rfl) (by
      refine kx_st 0 (pc' := 0) (L' := [some (.ref 48), some (.int (nI op))]) (st' := []) (h' := kv_wd g w) rfl ?_
      refine kx_st 5 (pc' := 7) (L' := [some (.ref 48), some (.int (nI op))]) (st' := [.int ((g 48 3) + 1), .ref 48]) (h' := kv_wd g w) rfl ?_
      refine kx_pf (i := 28) (k := 3) (x := ((g 48 3) + 1)) rfl rfl (by decide) rfl (Nat.le_of_ble_eq_true rfl) rfl rfl rfl ?_
      refine kx_st 2 (pc' := 12) (L' := [some (.ref 48), some (.int (nI op))]) (st' := [.int (nI op), .ref 48]) (h' := kv_wd (kv_up g 48 3 ((g 48 3) + 1)) w) rfl ?_
      refine kx_call (z := 49) (as := [.ref 48, .int (nI op)]) (rest := []) (v := some (.int 0)) (h1 := kv_wd g2 w) rfl (kx_ev_le (by omega) e2) ?_
      refine kx_st 0 (pc' := 15) (L' := [some (.ref 48), some (.int (nI op))]) (st' := [.int 0]) (h' := kv_wd g2 w) rfl ?_
      refine kx_st 1 (pc' := 18) (L' := [some (.ref 48), some (.int (nI op))]) (st' := []) (h' := kv_wd g2 w) rfl ?_
      refine kx_st 1 (pc' := 19) (L' := [some (.ref 48), some (.int (nI op))]) (st' := [.int 0]) (h' := kv_wd g2 w) rfl ?_
      refine kx_ret (v := some (.int 0)) rfl ?_
      exact ⟨rfl, _, rfl, kx_CR_f r1 r2⟩)
    exact ⟨g', kx_ev_le (by omega) he, hh⟩
set_option maxRecDepth 100000 in
theorem kx_brk {tx : Nat → Int32} {n u op a a2 hx : Nat} {ok : Bool} {cd : List Int32} (hx1 : 1 ≤ hx) (han : a < n) (n50 : n ≤ 50) (hb : kx_PB n (a + 1) ok a2 cd) (h : kx_PX tx n u 47 [.int 0, .int (nI op)] hx (a + 1) ok a2 cd) : (ok = true ∧ a2 < n ∧ tx a2 = 41 → kx_PX tx n u 51 [.int (nI op)] (hx + 1) a true (a2 + 1) cd) ∧ (¬ (ok = true ∧ a2 < n ∧ tx a2 = 41) → kx_PX tx n u 51 [.int (nI op)] (hx + 1) a false a2 []) := by
  constructor
  · rintro ⟨rfl, ha2, h41⟩
    intro E d g w ln hE hs hln
    have r1 := (kx_CR_up hs (g 48 3 + 1) (by rw [hs.2.1, nI_succ]))
    obtain ⟨g2, e2, r2⟩ := h E d _ w ln hE (kx_CS_u hs r1) (by omega)
    have hs2 := kx_CS_of (kx_CS_u hs r1) r2
    obtain ⟨v0, hf, he, rfl, g', rfl, hh⟩ := kx_evP (E := E) (d := d + (hx)) (y := 51) (h := kv_wd g w) (as := [.ref 48, .int (nI op)]) (P := fun v0 h => v0 = (some (.int 1) : Option Value) ∧ ∃ g' : kv_S, h = kv_wd g' w ∧ kx_CR g g' (a2 + 1) true ln cd) (by decide) (Nat.le_of_ble_eq_true rfl) (by
      refine kx_st 0 (pc' := 0) (L' := [some (.ref 48), some (.int (nI op))]) (st' := []) (h' := kv_wd g w) rfl ?_
      refine kx_st 5 (pc' := 7) (L' := [some (.ref 48), some (.int (nI op))]) (st' := [.int ((g 48 3) + 1), .ref 48]) (h' := kv_wd g w) rfl ?_
      refine kx_pf (i := 28) (k := 3) (x := ((g 48 3) + 1)) rfl rfl (by decide) rfl (Nat.le_of_ble_eq_true rfl) rfl rfl rfl ?_
      refine kx_st 3 (pc' := 13) (L' := [some (.ref 48), some (.int (nI op))]) (st' := [.int (nI op), .int 0, .ref 48]) (h' := kv_wd (kv_up g 48 3 ((g 48 3) + 1)) w) rfl ?_
      refine kx_call (z := 47) (as := [.ref 48, .int 0, .int (nI op)]) (rest := []) (v := some (.int 1)) (h1 := kv_wd g2 w) rfl (kx_ev_le (by omega) e2) ?_
      refine kx_st 0 (pc' := 16) (L' := [some (.ref 48), some (.int (nI op))]) (st' := [.int 1]) (h' := kv_wd g2 w) rfl ?_
      refine kx_st 1 (pc' := 19) (L' := [some (.ref 48), some (.int (nI op))]) (st' := []) (h' := kv_wd g2 w) rfl ?_
      refine kx_st 4 (pc' := 27) (L' := [some (.ref 48), some (.int (nI op))]) (st' := [.int (g2 48 2), .int (g2 48 3)]) (h' := kv_wd g2 w) rfl ?_
      refine kx_bi (t := 44) rfl rfl (fun (z27 : g2 48 2 ≤ g2 48 3) => ?_) (fun (z27 : ¬ (g2 48 2 ≤ g2 48 3)) => ?_)
      · exact absurd z27 (by rw [hs2.2.1, hs2.1]; exact nI_ge (a := a2) (b := n) ha2 (by omega))
      · refine kx_st 0 (pc' := 30) (L' := [some (.ref 48), some (.int (nI op))]) (st' := []) (h' := kv_wd g2 w) rfl ?_
        refine kx_st 4 (pc' := 38) (L' := [some (.ref 48), some (.int (nI op))]) (st' := [.int (g2 48 3), .ref 52]) (h' := kv_wd g2 w) rfl ?_
        refine kx_ia (k := a2) rfl rfl (by decide) hs2.2.1 (by omega) (by decide) ?_
        refine kx_st 1 (pc' := 41) (L' := [some (.ref 48), some (.int (nI op))]) (st' := [.int 41, .int (g2 52 a2)]) (h' := kv_wd g2 w) rfl ?_
        refine kx_bi (t := 46) rfl rfl (fun (z41 : g2 52 a2 = 41) => ?_) (fun (z41 : ¬ (g2 52 a2 = 41)) => ?_)
        · refine kx_st 5 (pc' := 53) (L' := [some (.ref 48), some (.int (nI op))]) (st' := [.int ((g2 48 3) + 1), .ref 48]) (h' := kv_wd g2 w) rfl ?_
          refine kx_pf (i := 28) (k := 3) (x := ((g2 48 3) + 1)) rfl rfl (by decide) rfl (Nat.le_of_ble_eq_true rfl) rfl rfl rfl ?_
          refine kx_st 1 (pc' := 57) (L' := [some (.ref 48), some (.int (nI op))]) (st' := [.int 1]) (h' := kv_wd (kv_up g2 48 3 ((g2 48 3) + 1)) w) rfl ?_
          refine kx_ret (v := some (.int 1)) rfl ?_
          exact ⟨rfl, _, rfl, by have z := kx_CR_u r1 (kx_CR_t r2 (kx_CR_up hs2 (g2 48 3 + 1) (by rw [hs2.2.1, nI_succ]))); rw [List.append_nil] at z; exact z⟩
        · exact absurd (by rw [hs2.2.2.2.1 a2 ha2]; exact h41) z41)
    exact ⟨g', kx_ev_le (by omega) he, hh⟩
  · intro hno
    intro E d g w ln hE hs hln
    have r1 := (kx_CR_up hs (g 48 3 + 1) (by rw [hs.2.1, nI_succ]))
    obtain ⟨g2, e2, r2⟩ := h E d _ w ln hE (kx_CS_u hs r1) (by omega)
    cases ok with
    | true =>
      have hs2 := kx_CS_of (kx_CS_u hs r1) r2
      have lt2 : ¬ g2 48 2 ≤ g2 48 3 → a2 < n := fun z => Classical.not_not.mp (fun y => z (by rw [hs2.2.1, hs2.1]; exact nI_le (by omega) (by have := hb.1; omega)))
      obtain ⟨v0, hf, he, rfl, g', rfl, hh⟩ := kx_evP (E := E) (d := d + (hx)) (y := 51) (h := kv_wd g w) (as := [.ref 48, .int (nI op)]) (P := fun v0 h => v0 = (some (.int 0) : Option Value) ∧ ∃ g' : kv_S, h = kv_wd g' w ∧ kx_CR g g' a2 false ln []) (by decide) (Nat.le_of_ble_eq_true rfl) (by
        refine kx_st 0 (pc' := 0) (L' := [some (.ref 48), some (.int (nI op))]) (st' := []) (h' := kv_wd g w) rfl ?_
        refine kx_st 5 (pc' := 7) (L' := [some (.ref 48), some (.int (nI op))]) (st' := [.int ((g 48 3) + 1), .ref 48]) (h' := kv_wd g w) rfl ?_
        refine kx_pf (i := 28) (k := 3) (x := ((g 48 3) + 1)) rfl rfl (by decide) rfl (Nat.le_of_ble_eq_true rfl) rfl rfl rfl ?_
        refine kx_st 3 (pc' := 13) (L' := [some (.ref 48), some (.int (nI op))]) (st' := [.int (nI op), .int 0, .ref 48]) (h' := kv_wd (kv_up g 48 3 ((g 48 3) + 1)) w) rfl ?_
        refine kx_call (z := 47) (as := [.ref 48, .int 0, .int (nI op)]) (rest := []) (v := some (.int 1)) (h1 := kv_wd g2 w) rfl (kx_ev_le (by omega) e2) ?_
        refine kx_st 0 (pc' := 16) (L' := [some (.ref 48), some (.int (nI op))]) (st' := [.int 1]) (h' := kv_wd g2 w) rfl ?_
        refine kx_st 1 (pc' := 19) (L' := [some (.ref 48), some (.int (nI op))]) (st' := []) (h' := kv_wd g2 w) rfl ?_
        refine kx_st 4 (pc' := 27) (L' := [some (.ref 48), some (.int (nI op))]) (st' := [.int (g2 48 2), .int (g2 48 3)]) (h' := kv_wd g2 w) rfl ?_
        refine kx_bi (t := 44) rfl rfl (fun (z27 : g2 48 2 ≤ g2 48 3) => ?_) (fun (z27 : ¬ (g2 48 2 ≤ g2 48 3)) => ?_)
        · refine kx_st 1 (pc' := 45) (L' := [some (.ref 48), some (.int (nI op))]) (st' := [.int 0]) (h' := kv_wd g2 w) rfl ?_
          refine kx_ret (v := some (.int 0)) rfl ?_
          exact ⟨rfl, _, rfl, ⟨hs2.2.1, ⟨r2.2.1.1.trans r1.2.1.1, r2.2.1.2.trans r1.2.1.2⟩, fun b b1 b2 b3 => (r2.2.2.1 b b1 b2 b3).trans (r1.2.2.1 b b1 b2 b3), fun z => by cases z⟩⟩
        · refine kx_st 0 (pc' := 30) (L' := [some (.ref 48), some (.int (nI op))]) (st' := []) (h' := kv_wd g2 w) rfl ?_
          refine kx_st 4 (pc' := 38) (L' := [some (.ref 48), some (.int (nI op))]) (st' := [.int (g2 48 3), .ref 52]) (h' := kv_wd g2 w) rfl ?_
          refine kx_ia (k := a2) rfl rfl (by decide) hs2.2.1 (by have := lt2 z27; omega) (by decide) ?_
          refine kx_st 1 (pc' := 41) (L' := [some (.ref 48), some (.int (nI op))]) (st' := [.int 41, .int (g2 52 a2)]) (h' := kv_wd g2 w) rfl ?_
          refine kx_bi (t := 46) rfl rfl (fun (z41 : g2 52 a2 = 41) => ?_) (fun (z41 : ¬ (g2 52 a2 = 41)) => ?_)
          · exact absurd ⟨rfl, lt2 z27, by rw [← hs2.2.2.2.1 a2 (lt2 z27)]; exact z41⟩ hno
          · refine kx_st 0 (pc' := 44) (L' := [some (.ref 48), some (.int (nI op))]) (st' := []) (h' := kv_wd g2 w) rfl ?_
            refine kx_st 1 (pc' := 45) (L' := [some (.ref 48), some (.int (nI op))]) (st' := [.int 0]) (h' := kv_wd g2 w) rfl ?_
            refine kx_ret (v := some (.int 0)) rfl ?_
            exact ⟨rfl, _, rfl, ⟨hs2.2.1, ⟨r2.2.1.1.trans r1.2.1.1, r2.2.1.2.trans r1.2.1.2⟩, fun b b1 b2 b3 => (r2.2.2.1 b b1 b2 b3).trans (r1.2.2.1 b b1 b2 b3), fun z => by cases z⟩⟩)
      exact ⟨g', kx_ev_le (by omega) he, hh⟩
    | false =>
      obtain ⟨v0, hf, he, rfl, g', rfl, hh⟩ := kx_evP (E := E) (d := d + (hx)) (y := 51) (h := kv_wd g w) (as := [.ref 48, .int (nI op)]) (P := fun v0 h => v0 = (some (.int 0) : Option Value) ∧ ∃ g' : kv_S, h = kv_wd g' w ∧ kx_CR g g' a2 false ln []) (by decide) (Nat.le_of_ble_eq_true rfl) (by
        refine kx_st 0 (pc' := 0) (L' := [some (.ref 48), some (.int (nI op))]) (st' := []) (h' := kv_wd g w) rfl ?_
        refine kx_st 5 (pc' := 7) (L' := [some (.ref 48), some (.int (nI op))]) (st' := [.int ((g 48 3) + 1), .ref 48]) (h' := kv_wd g w) rfl ?_
        refine kx_pf (i := 28) (k := 3) (x := ((g 48 3) + 1)) rfl rfl (by decide) rfl (Nat.le_of_ble_eq_true rfl) rfl rfl rfl ?_
        refine kx_st 3 (pc' := 13) (L' := [some (.ref 48), some (.int (nI op))]) (st' := [.int (nI op), .int 0, .ref 48]) (h' := kv_wd (kv_up g 48 3 ((g 48 3) + 1)) w) rfl ?_
        refine kx_call (z := 47) (as := [.ref 48, .int 0, .int (nI op)]) (rest := []) (v := some (.int 0)) (h1 := kv_wd g2 w) rfl (kx_ev_le (by omega) e2) ?_
        refine kx_st 0 (pc' := 16) (L' := [some (.ref 48), some (.int (nI op))]) (st' := [.int 0]) (h' := kv_wd g2 w) rfl ?_
        refine kx_st 1 (pc' := 44) (L' := [some (.ref 48), some (.int (nI op))]) (st' := []) (h' := kv_wd g2 w) rfl ?_
        refine kx_st 1 (pc' := 45) (L' := [some (.ref 48), some (.int (nI op))]) (st' := [.int 0]) (h' := kv_wd g2 w) rfl ?_
        refine kx_ret (v := some (.int 0)) rfl ?_
        exact ⟨rfl, _, rfl, kx_CR_f r1 r2⟩)
      exact ⟨g', kx_ev_le (by omega) he, hh⟩
theorem kx_bt_41 {tx : Nat → Int32} {n a : Nat} (h : kx_bt tx n a = 41) : true = true ∧ a < n ∧ tx a = 41 := by
  unfold kx_bt at h
  by_cases z : a < n
  · rw [if_pos z] at h; exact ⟨rfl, z, h⟩
  · rw [if_neg z] at h; exact absurd h (by decide)
set_option maxRecDepth 100000 in
theorem kx_pq_0 {tx : Nat → Int32} {n op a : Nat} (n50 : n ≤ 50) (htx : ∀ j, j < n → ∃ b, b ≤ 255 ∧ tx j = nI b) (han : a ≤ n) (h5 : op ≤ 5) (hq : op < 5 → ∀ a, a ≤ n → kx_PQ tx n 0 (op + 1) a) (hw : op < 5 → ∀ a, a ≤ n → kx_PL tx n 0 0 9 165 (op + 1) a) : kx_PQ tx n 0 op a := by
  by_cases hlt : a < n
  · by_cases hdg : 48 ≤ tx a ∧ tx a ≤ 57
    · have hdb := kx_dg_b (tx := tx) (n := n) 4 a 0 han (by decide) (by omega)
      have hd1 : a + 1 ≤ (kx_dg tx n 4 a 0).1 := by
        rw [show kx_dg tx n 4 a 0 = kx_dg tx n 3 (a + 1) (10 * 0 + ((tx a).toNatClampNeg - 48)) from if_pos ⟨hlt, hdg⟩]
        have hb9 : (tx a).toNatClampNeg - 48 ≤ 9 := by
          obtain ⟨k, hk, hk2⟩ := kx_nIof (n := 57) (Int32.le_trans (show (0 : Int32) ≤ 48 by decide) hdg.1) hdg.2 (by omega)
          rw [hk2, nI_clamp (by omega)]; omega
        exact (kx_dg_b (tx := tx) (n := n) 3 (a + 1) _ (by omega) (by show _ < 10 ^ 1; omega) (by omega)).1
      have hv3 : -3 ≤ nI (kx_dg tx n 4 a 0).2 := Int32.le_trans (show (-3 : Int32) ≤ 0 by decide) (nI_pos' (by omega))
      have hnz : ∀ z : Int32, z < 0 → ¬ nI (kx_dg tx n 4 a 0).2 = z := fun z hz e => absurd (by rw [e]; exact hz) (nI_pos (by omega))
      refine ⟨true, (kx_dg tx n 4 a 0).1, [nI (kx_dg tx n 4 a 0).2], ⟨⟨hdb.1, hdb.2.1⟩, fun _ => ⟨by omega, by simp; omega, by show 2 * ((if -3 ≤ nI (kx_dg tx n 4 a 0).2 then 1 else 0) + 0) ≤ _; rw [if_pos hv3]; omega⟩⟩, ?_, ?_⟩
      · intro E d g w ln hE hs hln
        obtain ⟨v0, hf, he, rfl, g', rfl, hh⟩ := kx_evP (E := E) (d := d + (8 * (5 - op) + 2)) (y := 49) (h := kv_wd g w) (as := [.ref 48, .int (nI op)]) (P := fun v0 h => v0 = (some (.int 1) : Option Value) ∧ ∃ g' : kv_S, h = kv_wd g' w ∧ kx_CR g g' ((kx_dg tx n 4 a 0).1) true ln [nI (kx_dg tx n 4 a 0).2]) (by decide) (Nat.le_of_ble_eq_true rfl) (by
          refine kx_st 0 (pc' := 0) (L' := [some (.ref 48), some (.int (nI op)), none, none]) (st' := []) (h' := kv_wd g w) rfl ?_
          refine kx_st 4 (pc' := 8) (L' := [some (.ref 48), some (.int (nI op)), none, none]) (st' := [.int (g 48 2), .int (g 48 3)]) (h' := kv_wd g w) rfl ?_
          refine kx_bi (t := 13) rfl rfl (fun (h8 : g 48 3 < g 48 2) => ?_) (fun (h8 : ¬ (g 48 3 < g 48 2)) => ?_)
          · refine kx_st 4 (pc' := 21) (L' := [some (.ref 48), some (.int (nI op)), none, none]) (st' := [.int (g 48 3), .ref 52]) (h' := kv_wd g w) rfl ?_
            refine kx_ia (k := a) rfl rfl (by decide) hs.2.1 (by omega) (by decide) ?_
            refine kx_st 1 (pc' := 23) (L' := [some (.ref 48), some (.int (nI op)), some (.int (g 52 a)), none]) (st' := []) (h' := kv_wd g w) rfl ?_
            rw [hs.2.2.2.1 a hlt]
            refine kx_st 1 (pc' := 24) (L' := [some (.ref 48), some (.int (nI op)), some (.int (tx a)), none]) (st' := [.int (tx a)]) (h' := kv_wd g w) rfl ?_
            refine kx_call (z := 53) (as := [.int (tx a)]) (rest := []) (v := some (.int (kx_b (48 ≤ tx a ∧ tx a ≤ 57)))) (h1 := kv_wd g w) rfl (kx_ev_le (d := 0 + 1) (by omega) (ev_isDigitX (d := 0) _)) ?_
            refine kx_st 0 (pc' := 27) (L' := [some (.ref 48), some (.int (nI op)), some (.int (tx a)), none]) (st' := [.int (kx_b (48 ≤ tx a ∧ tx a ≤ 57))]) (h' := kv_wd g w) rfl ?_
            refine kx_be (t := 36) rfl rfl (fun (h27 : ¬ (48 ≤ tx a ∧ tx a ≤ 57)) => ?_) (fun (h27 : (48 ≤ tx a ∧ tx a ≤ 57)) => ?_)
            · exact absurd hdg h27
            · refine kx_st 0 (pc' := 30) (L' := [some (.ref 48), some (.int (nI op)), some (.int (tx a)), none]) (st' := []) (h' := kv_wd g w) rfl ?_
              refine kx_st 1 (pc' := 31) (L' := [some (.ref 48), some (.int (nI op)), some (.int (tx a)), none]) (st' := [.ref 48]) (h' := kv_wd g w) rfl ?_
              obtain ⟨g2, e2, r2⟩ := ev_readNumber (E := E) (d := 0) (w := w) n50 han hs (by omega)
              refine kx_call (z := 52) (as := [.ref 48]) (rest := []) (v := none) (h1 := kv_wd g2 w) rfl (kx_ev_le (by omega) e2) ?_
              refine kx_st 0 (pc' := 34) (L' := [some (.ref 48), some (.int (nI op)), some (.int (tx a)), none]) (st' := []) (h' := kv_wd g2 w) rfl ?_
              refine kx_st 1 (pc' := 35) (L' := [some (.ref 48), some (.int (nI op)), some (.int (tx a)), none]) (st' := [.int 1]) (h' := kv_wd g2 w) rfl ?_
              refine kx_ret (v := some (.int 1)) rfl ?_
              exact ⟨rfl, _, rfl, r2⟩
          · exact absurd (by rw [hs.2.1, hs.1]; exact nI_lt (a := a) (b := n) hlt (by omega)) h8)
        exact ⟨g', kx_ev_le (by omega) he, hh⟩
      · intro A B C
        refine ⟨nI (kx_dg tx n 4 a 0).2, fun _ st => ?_, ?_⟩
        · show kx_e1 A B C (nI (kx_dg tx n 4 a 0).2) st = _
          unfold kx_e1 kx_vl
          rw [if_pos hv3, if_neg (hnz _ (by decide)), if_neg (hnz _ (by decide)), if_neg (hnz _ (by decide))]
        · intro E d g w hs
          have hbt : kx_bt tx n a = tx a := if_pos hlt
          obtain ⟨v0, hf, he, rfl, g', rfl, hh⟩ := kx_evP (E := E) (d := d + (6 * (5 - op) + 3)) (y := 160) (h := kv_wd g w) (as := [.ref 65]) (P := fun v0 h => v0 = (some (.int (nI (kx_dg tx n 4 a 0).2)) : Option Value) ∧ ∃ g' : kv_S, h = kv_wd g' w ∧ kx_RG g g' ((kx_dg tx n 4 a 0).1) op true) (by decide) (Nat.le_of_ble_eq_true rfl) (by
            refine kx_st 0 (pc' := 0) (L' := [some (.ref 65), none, none]) (st' := []) (h' := kv_wd g w) rfl ?_
            refine kx_st 3 (pc' := 5) (L' := [some (.ref 65), none, none]) (st' := [.int (g 65 8), .ref 65]) (h' := kv_wd g w) rfl ?_
            refine kx_call (z := 155) (as := [.ref 65, .int (g 65 8)]) (rest := []) (v := some (.int (tx a))) (h1 := kv_wd g w) rfl (by rw [show g 65 8 = nI a from hs.1.2.1]; have z := ev_byteAt (E := E) (d := 0) (w := w) hs n50 (by omega) a (by omega); rw [hbt] at z; exact kx_ev_le (by omega) z) ?_
            refine kx_st 0 (pc' := 8) (L' := [some (.ref 65), none, none]) (st' := [.int (tx a)]) (h' := kv_wd g w) rfl ?_
            refine kx_st 2 (pc' := 10) (L' := [some (.ref 65), some (.int (tx a)), none]) (st' := [.int (tx a)]) (h' := kv_wd g w) rfl ?_
            refine kx_call (z := 156) (as := [.int (tx a)]) (rest := []) (v := some (.int (kx_b (48 ≤ tx a ∧ tx a ≤ 57)))) (h1 := kv_wd g w) rfl (kx_ev_le (d := 0 + 2) (by omega) (ev_isDigitM (d := 0) _)) ?_
            refine kx_st 0 (pc' := 13) (L' := [some (.ref 65), some (.int (tx a)), none]) (st' := [.int (kx_b (48 ≤ tx a ∧ tx a ≤ 57))]) (h' := kv_wd g w) rfl ?_
            refine kx_be (t := 21) rfl rfl (fun (h13 : ¬ (48 ≤ tx a ∧ tx a ≤ 57)) => ?_) (fun (h13 : (48 ≤ tx a ∧ tx a ≤ 57)) => ?_)
            · exact absurd hdg h13
            · refine kx_st 0 (pc' := 16) (L' := [some (.ref 65), some (.int (tx a)), none]) (st' := []) (h' := kv_wd g w) rfl ?_
              refine kx_st 1 (pc' := 17) (L' := [some (.ref 65), some (.int (tx a)), none]) (st' := [.ref 65]) (h' := kv_wd g w) rfl ?_
              obtain ⟨g2, e2, r2⟩ := ev_number (E := E) (d := 0) (w := w) n50 (by omega) han hs
              refine kx_call (z := 158) (as := [.ref 65]) (rest := []) (v := some (.int (nI (kx_dg tx n 4 a 0).2))) (h1 := kv_wd g2 w) rfl (kx_ev_le (by omega) e2) ?_
              refine kx_st 0 (pc' := 20) (L' := [some (.ref 65), some (.int (tx a)), none]) (st' := [.int (nI (kx_dg tx n 4 a 0).2)]) (h' := kv_wd g2 w) rfl ?_
              refine kx_ret (v := some (.int (nI (kx_dg tx n 4 a 0).2))) rfl ?_
              exact ⟨rfl, _, rfl, r2⟩)
          exact ⟨g', kx_ev_le (by omega) he, hh⟩
    by_cases hn1 : tx a = 118
    · have hx := hn1
      refine ⟨true, a + 1, [-1], ⟨⟨by omega, by omega⟩, fun _ => ⟨by omega, by simp, by show 2 * (1 + 0) ≤ _; omega⟩⟩, ?_, ?_⟩
      · intro E d g w ln hE hs hln
        obtain ⟨v0, hf, he, rfl, g', rfl, hh⟩ := kx_evP (E := E) (d := d + (8 * (5 - op) + 2)) (y := 49) (h := kv_wd g w) (as := [.ref 48, .int (nI op)]) (P := fun v0 h => v0 = (some (.int 1) : Option Value) ∧ ∃ g' : kv_S, h = kv_wd g' w ∧ kx_CR g g' (a + 1) true ln [-1]) (by decide) (Nat.le_of_ble_eq_true rfl) (by
          refine kx_st 0 (pc' := 0) (L' := [some (.ref 48), some (.int (nI op)), none, none]) (st' := []) (h' := kv_wd g w) rfl ?_
          refine kx_st 4 (pc' := 8) (L' := [some (.ref 48), some (.int (nI op)), none, none]) (st' := [.int (g 48 2), .int (g 48 3)]) (h' := kv_wd g w) rfl ?_
          refine kx_bi (t := 13) rfl rfl (fun (h8 : g 48 3 < g 48 2) => ?_) (fun (h8 : ¬ (g 48 3 < g 48 2)) => ?_)
          · refine kx_st 4 (pc' := 21) (L' := [some (.ref 48), some (.int (nI op)), none, none]) (st' := [.int (g 48 3), .ref 52]) (h' := kv_wd g w) rfl ?_
            refine kx_ia (k := a) rfl rfl (by decide) hs.2.1 (by omega) (by decide) ?_
            refine kx_st 1 (pc' := 23) (L' := [some (.ref 48), some (.int (nI op)), some (.int (g 52 a)), none]) (st' := []) (h' := kv_wd g w) rfl ?_
            rw [hs.2.2.2.1 a hlt, hx]
            refine kx_st 1 (pc' := 24) (L' := [some (.ref 48), some (.int (nI op)), some (.int 118), none]) (st' := [.int 118]) (h' := kv_wd g w) rfl ?_
            refine kx_call (z := 53) (as := [.int 118]) (rest := []) (v := some (.int (kx_b (48 ≤ (118 : Int32) ∧ (118 : Int32) ≤ 57)))) (h1 := kv_wd g w) rfl (kx_ev_le (d := 0 + 1) (by omega) (ev_isDigitX (d := 0) _)) ?_
            refine kx_st 0 (pc' := 27) (L' := [some (.ref 48), some (.int (nI op)), some (.int 118), none]) (st' := [.int (kx_b (48 ≤ (118 : Int32) ∧ (118 : Int32) ≤ 57))]) (h' := kv_wd g w) rfl ?_
            refine kx_be (t := 36) rfl rfl (fun (h27 : ¬ (48 ≤ (118 : Int32) ∧ (118 : Int32) ≤ 57)) => ?_) (fun (h27 : (48 ≤ (118 : Int32) ∧ (118 : Int32) ≤ 57)) => ?_)
            · refine kx_st 2 (pc' := 38) (L' := [some (.ref 48), some (.int (nI op)), some (.int 118), none]) (st' := [.int 118, .ref 48]) (h' := kv_wd g w) rfl ?_
              refine kx_call (z := 54) (as := [.ref 48, .int 118]) (rest := []) (v := some (.int 1)) (h1 := kv_wd g w) rfl (kx_ev_le (d := 0 + 1) (by omega) (ev_nm_0_118 (d := 0) hE hs.2.2.1)) ?_
              refine kx_st 0 (pc' := 41) (L' := [some (.ref 48), some (.int (nI op)), some (.int 118), none]) (st' := [.int 1]) (h' := kv_wd g w) rfl ?_
              refine kx_st 2 (pc' := 43) (L' := [some (.ref 48), some (.int (nI op)), some (.int 118), some (.int 1)]) (st' := [.int 1]) (h' := kv_wd g w) rfl ?_
              refine kx_st 1 (pc' := 46) (L' := [some (.ref 48), some (.int (nI op)), some (.int 118), some (.int 1)]) (st' := []) (h' := kv_wd g w) rfl ?_
              refine kx_st 5 (pc' := 53) (L' := [some (.ref 48), some (.int (nI op)), some (.int 118), some (.int 1)]) (st' := [.int ((g 48 3) + 1), .ref 48]) (h' := kv_wd g w) rfl ?_
              refine kx_pf (i := 28) (k := 3) (x := ((g 48 3) + 1)) rfl rfl (by decide) rfl (Nat.le_of_ble_eq_true rfl) rfl rfl rfl ?_
              refine kx_st 4 (pc' := 62) (L' := [some (.ref 48), some (.int (nI op)), some (.int 118), some (.int 1)]) (st' := [.int (-1), .ref 49]) (h' := kv_wd (kv_up g 48 3 ((g 48 3) + 1)) w) rfl ?_
              have r1 := (kx_CR_up hs (g 48 3 + 1) (by rw [hs.2.1, nI_succ]))
              refine kx_call (z := 38) (as := [.ref 49, .int (-1)]) (rest := []) (v := none) (h1 := kv_wd (kv_up (kv_up (kv_up g 48 3 ((g 48 3) + 1)) 50 ln (-1)) 49 2 (nI (ln + 1))) w) rfl (kx_ev_le (d := 0 + 1) (by omega) (ev_add (d := 0) ln (kx_CS_u hs r1).2.2.2.2 (by omega) (-1))) ?_
              refine kx_st 0 (pc' := 65) (L' := [some (.ref 48), some (.int (nI op)), some (.int 118), some (.int 1)]) (st' := []) (h' := kv_wd (kv_up (kv_up (kv_up g 48 3 ((g 48 3) + 1)) 50 ln (-1)) 49 2 (nI (ln + 1))) w) rfl ?_
              refine kx_st 1 (pc' := 66) (L' := [some (.ref 48), some (.int (nI op)), some (.int 118), some (.int 1)]) (st' := [.int 1]) (h' := kv_wd (kv_up (kv_up (kv_up g 48 3 ((g 48 3) + 1)) 50 ln (-1)) 49 2 (nI (ln + 1))) w) rfl ?_
              refine kx_ret (v := some (.int 1)) rfl ?_
              exact ⟨rfl, _, rfl, kx_CR_u r1 (kx_CR_add (kx_CS_u hs r1) (-1))⟩
            · exact absurd h27 (by decide)
          · exact absurd (by rw [hs.2.1, hs.1]; exact nI_lt (a := a) (b := n) hlt (by omega)) h8)
        exact ⟨g', kx_ev_le (by omega) he, hh⟩
      · intro A B C
        refine ⟨A, fun _ st => rfl, ?_⟩
        intro E d g w hs
        have hbt : kx_bt tx n a = 118 := by rw [show kx_bt tx n a = tx a from if_pos hlt]; exact hx
        obtain ⟨v0, hf, he, rfl, g', rfl, hh⟩ := kx_evP (E := E) (d := d + (6 * (5 - op) + 3)) (y := 160) (h := kv_wd g w) (as := [.ref 65]) (P := fun v0 h => v0 = (some (.int A) : Option Value) ∧ ∃ g' : kv_S, h = kv_wd g' w ∧ kx_RG g g' (a + 1) op true) (by decide) (Nat.le_of_ble_eq_true rfl) (by
          refine kx_st 0 (pc' := 0) (L' := [some (.ref 65), none, none]) (st' := []) (h' := kv_wd g w) rfl ?_
          refine kx_st 3 (pc' := 5) (L' := [some (.ref 65), none, none]) (st' := [.int (g 65 8), .ref 65]) (h' := kv_wd g w) rfl ?_
          refine kx_call (z := 155) (as := [.ref 65, .int (g 65 8)]) (rest := []) (v := some (.int 118)) (h1 := kv_wd g w) rfl (by rw [show g 65 8 = nI a from hs.1.2.1]; have z := ev_byteAt (E := E) (d := 0) (w := w) hs n50 (by omega) a (by omega); rw [hbt] at z; exact kx_ev_le (by omega) z) ?_
          refine kx_st 0 (pc' := 8) (L' := [some (.ref 65), none, none]) (st' := [.int 118]) (h' := kv_wd g w) rfl ?_
          refine kx_st 2 (pc' := 10) (L' := [some (.ref 65), some (.int 118), none]) (st' := [.int 118]) (h' := kv_wd g w) rfl ?_
          refine kx_call (z := 156) (as := [.int 118]) (rest := []) (v := some (.int (kx_b (48 ≤ (118 : Int32) ∧ (118 : Int32) ≤ 57)))) (h1 := kv_wd g w) rfl (kx_ev_le (d := 0 + 2) (by omega) (ev_isDigitM (d := 0) _)) ?_
          refine kx_st 0 (pc' := 13) (L' := [some (.ref 65), some (.int 118), none]) (st' := [.int (kx_b (48 ≤ (118 : Int32) ∧ (118 : Int32) ≤ 57))]) (h' := kv_wd g w) rfl ?_
          refine kx_be (t := 21) rfl rfl (fun (h13 : ¬ (48 ≤ (118 : Int32) ∧ (118 : Int32) ≤ 57)) => ?_) (fun (h13 : (48 ≤ (118 : Int32) ∧ (118 : Int32) ≤ 57)) => ?_)
          · refine kx_st 2 (pc' := 24) (L' := [some (.ref 65), some (.int 118), none]) (st' := [.int 33, .int 118]) (h' := kv_wd g w) rfl ?_
            refine kx_st 1 (pc' := 27) (L' := [some (.ref 65), some (.int 118), none]) (st' := []) (h' := kv_wd g w) rfl ?_
            refine kx_st 2 (pc' := 30) (L' := [some (.ref 65), some (.int 118), none]) (st' := [.int 40, .int 118]) (h' := kv_wd g w) rfl ?_
            refine kx_st 1 (pc' := 33) (L' := [some (.ref 65), some (.int 118), none]) (st' := []) (h' := kv_wd g w) rfl ?_
            refine kx_st 2 (pc' := 35) (L' := [some (.ref 65), some (.int 118), none]) (st' := [.int 118, .ref 65]) (h' := kv_wd g w) rfl ?_
            refine kx_call (z := 159) (as := [.ref 65, .int 118]) (rest := []) (v := some (.int A)) (h1 := kv_wd (kv_up g 65 8 (g 65 8 + 1)) w) rfl (kx_ev_le (d := 0 + 2) (by omega) (ev_named_0_118 (d := 0) hs)) ?_
            refine kx_st 0 (pc' := 38) (L' := [some (.ref 65), some (.int 118), none]) (st' := [.int A]) (h' := kv_wd (kv_up g 65 8 (g 65 8 + 1)) w) rfl ?_
            refine kx_ret (v := some (.int A)) rfl ?_
            exact ⟨rfl, _, rfl, kx_RG_up hs _ (by rw [hs.1.2.1, nI_succ])⟩
          · exact absurd h13 (by decide))
        exact ⟨g', kx_ev_le (by omega) he, hh⟩
    by_cases hn2 : tx a = 107
    · have hx := hn2
      refine ⟨true, a + 1, [-2], ⟨⟨by omega, by omega⟩, fun _ => ⟨by omega, by simp, by show 2 * (1 + 0) ≤ _; omega⟩⟩, ?_, ?_⟩
      · intro E d g w ln hE hs hln
        obtain ⟨v0, hf, he, rfl, g', rfl, hh⟩ := kx_evP (E := E) (d := d + (8 * (5 - op) + 2)) (y := 49) (h := kv_wd g w) (as := [.ref 48, .int (nI op)]) (P := fun v0 h => v0 = (some (.int 1) : Option Value) ∧ ∃ g' : kv_S, h = kv_wd g' w ∧ kx_CR g g' (a + 1) true ln [-2]) (by decide) (Nat.le_of_ble_eq_true rfl) (by
          refine kx_st 0 (pc' := 0) (L' := [some (.ref 48), some (.int (nI op)), none, none]) (st' := []) (h' := kv_wd g w) rfl ?_
          refine kx_st 4 (pc' := 8) (L' := [some (.ref 48), some (.int (nI op)), none, none]) (st' := [.int (g 48 2), .int (g 48 3)]) (h' := kv_wd g w) rfl ?_
          refine kx_bi (t := 13) rfl rfl (fun (h8 : g 48 3 < g 48 2) => ?_) (fun (h8 : ¬ (g 48 3 < g 48 2)) => ?_)
          · refine kx_st 4 (pc' := 21) (L' := [some (.ref 48), some (.int (nI op)), none, none]) (st' := [.int (g 48 3), .ref 52]) (h' := kv_wd g w) rfl ?_
            refine kx_ia (k := a) rfl rfl (by decide) hs.2.1 (by omega) (by decide) ?_
            refine kx_st 1 (pc' := 23) (L' := [some (.ref 48), some (.int (nI op)), some (.int (g 52 a)), none]) (st' := []) (h' := kv_wd g w) rfl ?_
            rw [hs.2.2.2.1 a hlt, hx]
            refine kx_st 1 (pc' := 24) (L' := [some (.ref 48), some (.int (nI op)), some (.int 107), none]) (st' := [.int 107]) (h' := kv_wd g w) rfl ?_
            refine kx_call (z := 53) (as := [.int 107]) (rest := []) (v := some (.int (kx_b (48 ≤ (107 : Int32) ∧ (107 : Int32) ≤ 57)))) (h1 := kv_wd g w) rfl (kx_ev_le (d := 0 + 1) (by omega) (ev_isDigitX (d := 0) _)) ?_
            refine kx_st 0 (pc' := 27) (L' := [some (.ref 48), some (.int (nI op)), some (.int 107), none]) (st' := [.int (kx_b (48 ≤ (107 : Int32) ∧ (107 : Int32) ≤ 57))]) (h' := kv_wd g w) rfl ?_
            refine kx_be (t := 36) rfl rfl (fun (h27 : ¬ (48 ≤ (107 : Int32) ∧ (107 : Int32) ≤ 57)) => ?_) (fun (h27 : (48 ≤ (107 : Int32) ∧ (107 : Int32) ≤ 57)) => ?_)
            · refine kx_st 2 (pc' := 38) (L' := [some (.ref 48), some (.int (nI op)), some (.int 107), none]) (st' := [.int 107, .ref 48]) (h' := kv_wd g w) rfl ?_
              refine kx_call (z := 54) (as := [.ref 48, .int 107]) (rest := []) (v := some (.int 2)) (h1 := kv_wd g w) rfl (kx_ev_le (d := 0 + 1) (by omega) (ev_nm_0_107 (d := 0) hE hs.2.2.1)) ?_
              refine kx_st 0 (pc' := 41) (L' := [some (.ref 48), some (.int (nI op)), some (.int 107), none]) (st' := [.int 2]) (h' := kv_wd g w) rfl ?_
              refine kx_st 2 (pc' := 43) (L' := [some (.ref 48), some (.int (nI op)), some (.int 107), some (.int 2)]) (st' := [.int 2]) (h' := kv_wd g w) rfl ?_
              refine kx_st 1 (pc' := 46) (L' := [some (.ref 48), some (.int (nI op)), some (.int 107), some (.int 2)]) (st' := []) (h' := kv_wd g w) rfl ?_
              refine kx_st 5 (pc' := 53) (L' := [some (.ref 48), some (.int (nI op)), some (.int 107), some (.int 2)]) (st' := [.int ((g 48 3) + 1), .ref 48]) (h' := kv_wd g w) rfl ?_
              refine kx_pf (i := 28) (k := 3) (x := ((g 48 3) + 1)) rfl rfl (by decide) rfl (Nat.le_of_ble_eq_true rfl) rfl rfl rfl ?_
              refine kx_st 4 (pc' := 62) (L' := [some (.ref 48), some (.int (nI op)), some (.int 107), some (.int 2)]) (st' := [.int (-2), .ref 49]) (h' := kv_wd (kv_up g 48 3 ((g 48 3) + 1)) w) rfl ?_
              have r1 := (kx_CR_up hs (g 48 3 + 1) (by rw [hs.2.1, nI_succ]))
              refine kx_call (z := 38) (as := [.ref 49, .int (-2)]) (rest := []) (v := none) (h1 := kv_wd (kv_up (kv_up (kv_up g 48 3 ((g 48 3) + 1)) 50 ln (-2)) 49 2 (nI (ln + 1))) w) rfl (kx_ev_le (d := 0 + 1) (by omega) (ev_add (d := 0) ln (kx_CS_u hs r1).2.2.2.2 (by omega) (-2))) ?_
              refine kx_st 0 (pc' := 65) (L' := [some (.ref 48), some (.int (nI op)), some (.int 107), some (.int 2)]) (st' := []) (h' := kv_wd (kv_up (kv_up (kv_up g 48 3 ((g 48 3) + 1)) 50 ln (-2)) 49 2 (nI (ln + 1))) w) rfl ?_
              refine kx_st 1 (pc' := 66) (L' := [some (.ref 48), some (.int (nI op)), some (.int 107), some (.int 2)]) (st' := [.int 1]) (h' := kv_wd (kv_up (kv_up (kv_up g 48 3 ((g 48 3) + 1)) 50 ln (-2)) 49 2 (nI (ln + 1))) w) rfl ?_
              refine kx_ret (v := some (.int 1)) rfl ?_
              exact ⟨rfl, _, rfl, kx_CR_u r1 (kx_CR_add (kx_CS_u hs r1) (-2))⟩
            · exact absurd h27 (by decide)
          · exact absurd (by rw [hs.2.1, hs.1]; exact nI_lt (a := a) (b := n) hlt (by omega)) h8)
        exact ⟨g', kx_ev_le (by omega) he, hh⟩
      · intro A B C
        refine ⟨B, fun _ st => rfl, ?_⟩
        intro E d g w hs
        have hbt : kx_bt tx n a = 107 := by rw [show kx_bt tx n a = tx a from if_pos hlt]; exact hx
        obtain ⟨v0, hf, he, rfl, g', rfl, hh⟩ := kx_evP (E := E) (d := d + (6 * (5 - op) + 3)) (y := 160) (h := kv_wd g w) (as := [.ref 65]) (P := fun v0 h => v0 = (some (.int B) : Option Value) ∧ ∃ g' : kv_S, h = kv_wd g' w ∧ kx_RG g g' (a + 1) op true) (by decide) (Nat.le_of_ble_eq_true rfl) (by
          refine kx_st 0 (pc' := 0) (L' := [some (.ref 65), none, none]) (st' := []) (h' := kv_wd g w) rfl ?_
          refine kx_st 3 (pc' := 5) (L' := [some (.ref 65), none, none]) (st' := [.int (g 65 8), .ref 65]) (h' := kv_wd g w) rfl ?_
          refine kx_call (z := 155) (as := [.ref 65, .int (g 65 8)]) (rest := []) (v := some (.int 107)) (h1 := kv_wd g w) rfl (by rw [show g 65 8 = nI a from hs.1.2.1]; have z := ev_byteAt (E := E) (d := 0) (w := w) hs n50 (by omega) a (by omega); rw [hbt] at z; exact kx_ev_le (by omega) z) ?_
          refine kx_st 0 (pc' := 8) (L' := [some (.ref 65), none, none]) (st' := [.int 107]) (h' := kv_wd g w) rfl ?_
          refine kx_st 2 (pc' := 10) (L' := [some (.ref 65), some (.int 107), none]) (st' := [.int 107]) (h' := kv_wd g w) rfl ?_
          refine kx_call (z := 156) (as := [.int 107]) (rest := []) (v := some (.int (kx_b (48 ≤ (107 : Int32) ∧ (107 : Int32) ≤ 57)))) (h1 := kv_wd g w) rfl (kx_ev_le (d := 0 + 2) (by omega) (ev_isDigitM (d := 0) _)) ?_
          refine kx_st 0 (pc' := 13) (L' := [some (.ref 65), some (.int 107), none]) (st' := [.int (kx_b (48 ≤ (107 : Int32) ∧ (107 : Int32) ≤ 57))]) (h' := kv_wd g w) rfl ?_
          refine kx_be (t := 21) rfl rfl (fun (h13 : ¬ (48 ≤ (107 : Int32) ∧ (107 : Int32) ≤ 57)) => ?_) (fun (h13 : (48 ≤ (107 : Int32) ∧ (107 : Int32) ≤ 57)) => ?_)
          · refine kx_st 2 (pc' := 24) (L' := [some (.ref 65), some (.int 107), none]) (st' := [.int 33, .int 107]) (h' := kv_wd g w) rfl ?_
            refine kx_st 1 (pc' := 27) (L' := [some (.ref 65), some (.int 107), none]) (st' := []) (h' := kv_wd g w) rfl ?_
            refine kx_st 2 (pc' := 30) (L' := [some (.ref 65), some (.int 107), none]) (st' := [.int 40, .int 107]) (h' := kv_wd g w) rfl ?_
            refine kx_st 1 (pc' := 33) (L' := [some (.ref 65), some (.int 107), none]) (st' := []) (h' := kv_wd g w) rfl ?_
            refine kx_st 2 (pc' := 35) (L' := [some (.ref 65), some (.int 107), none]) (st' := [.int 107, .ref 65]) (h' := kv_wd g w) rfl ?_
            refine kx_call (z := 159) (as := [.ref 65, .int 107]) (rest := []) (v := some (.int B)) (h1 := kv_wd (kv_up g 65 8 (g 65 8 + 1)) w) rfl (kx_ev_le (d := 0 + 2) (by omega) (ev_named_0_107 (d := 0) hs)) ?_
            refine kx_st 0 (pc' := 38) (L' := [some (.ref 65), some (.int 107), none]) (st' := [.int B]) (h' := kv_wd (kv_up g 65 8 (g 65 8 + 1)) w) rfl ?_
            refine kx_ret (v := some (.int B)) rfl ?_
            exact ⟨rfl, _, rfl, kx_RG_up hs _ (by rw [hs.1.2.1, nI_succ])⟩
          · exact absurd h13 (by decide))
        exact ⟨g', kx_ev_le (by omega) he, hh⟩
    by_cases hn3 : tx a = 121
    · have hx := hn3
      refine ⟨true, a + 1, [-3], ⟨⟨by omega, by omega⟩, fun _ => ⟨by omega, by simp, by show 2 * (1 + 0) ≤ _; omega⟩⟩, ?_, ?_⟩
      · intro E d g w ln hE hs hln
        obtain ⟨v0, hf, he, rfl, g', rfl, hh⟩ := kx_evP (E := E) (d := d + (8 * (5 - op) + 2)) (y := 49) (h := kv_wd g w) (as := [.ref 48, .int (nI op)]) (P := fun v0 h => v0 = (some (.int 1) : Option Value) ∧ ∃ g' : kv_S, h = kv_wd g' w ∧ kx_CR g g' (a + 1) true ln [-3]) (by decide) (Nat.le_of_ble_eq_true rfl) (by
          refine kx_st 0 (pc' := 0) (L' := [some (.ref 48), some (.int (nI op)), none, none]) (st' := []) (h' := kv_wd g w) rfl ?_
          refine kx_st 4 (pc' := 8) (L' := [some (.ref 48), some (.int (nI op)), none, none]) (st' := [.int (g 48 2), .int (g 48 3)]) (h' := kv_wd g w) rfl ?_
          refine kx_bi (t := 13) rfl rfl (fun (h8 : g 48 3 < g 48 2) => ?_) (fun (h8 : ¬ (g 48 3 < g 48 2)) => ?_)
          · refine kx_st 4 (pc' := 21) (L' := [some (.ref 48), some (.int (nI op)), none, none]) (st' := [.int (g 48 3), .ref 52]) (h' := kv_wd g w) rfl ?_
            refine kx_ia (k := a) rfl rfl (by decide) hs.2.1 (by omega) (by decide) ?_
            refine kx_st 1 (pc' := 23) (L' := [some (.ref 48), some (.int (nI op)), some (.int (g 52 a)), none]) (st' := []) (h' := kv_wd g w) rfl ?_
            rw [hs.2.2.2.1 a hlt, hx]
            refine kx_st 1 (pc' := 24) (L' := [some (.ref 48), some (.int (nI op)), some (.int 121), none]) (st' := [.int 121]) (h' := kv_wd g w) rfl ?_
            refine kx_call (z := 53) (as := [.int 121]) (rest := []) (v := some (.int (kx_b (48 ≤ (121 : Int32) ∧ (121 : Int32) ≤ 57)))) (h1 := kv_wd g w) rfl (kx_ev_le (d := 0 + 1) (by omega) (ev_isDigitX (d := 0) _)) ?_
            refine kx_st 0 (pc' := 27) (L' := [some (.ref 48), some (.int (nI op)), some (.int 121), none]) (st' := [.int (kx_b (48 ≤ (121 : Int32) ∧ (121 : Int32) ≤ 57))]) (h' := kv_wd g w) rfl ?_
            refine kx_be (t := 36) rfl rfl (fun (h27 : ¬ (48 ≤ (121 : Int32) ∧ (121 : Int32) ≤ 57)) => ?_) (fun (h27 : (48 ≤ (121 : Int32) ∧ (121 : Int32) ≤ 57)) => ?_)
            · refine kx_st 2 (pc' := 38) (L' := [some (.ref 48), some (.int (nI op)), some (.int 121), none]) (st' := [.int 121, .ref 48]) (h' := kv_wd g w) rfl ?_
              refine kx_call (z := 54) (as := [.ref 48, .int 121]) (rest := []) (v := some (.int 3)) (h1 := kv_wd g w) rfl (kx_ev_le (d := 0 + 1) (by omega) (ev_nm_0_121 (d := 0) hE hs.2.2.1)) ?_
              refine kx_st 0 (pc' := 41) (L' := [some (.ref 48), some (.int (nI op)), some (.int 121), none]) (st' := [.int 3]) (h' := kv_wd g w) rfl ?_
              refine kx_st 2 (pc' := 43) (L' := [some (.ref 48), some (.int (nI op)), some (.int 121), some (.int 3)]) (st' := [.int 3]) (h' := kv_wd g w) rfl ?_
              refine kx_st 1 (pc' := 46) (L' := [some (.ref 48), some (.int (nI op)), some (.int 121), some (.int 3)]) (st' := []) (h' := kv_wd g w) rfl ?_
              refine kx_st 5 (pc' := 53) (L' := [some (.ref 48), some (.int (nI op)), some (.int 121), some (.int 3)]) (st' := [.int ((g 48 3) + 1), .ref 48]) (h' := kv_wd g w) rfl ?_
              refine kx_pf (i := 28) (k := 3) (x := ((g 48 3) + 1)) rfl rfl (by decide) rfl (Nat.le_of_ble_eq_true rfl) rfl rfl rfl ?_
              refine kx_st 4 (pc' := 62) (L' := [some (.ref 48), some (.int (nI op)), some (.int 121), some (.int 3)]) (st' := [.int (-3), .ref 49]) (h' := kv_wd (kv_up g 48 3 ((g 48 3) + 1)) w) rfl ?_
              have r1 := (kx_CR_up hs (g 48 3 + 1) (by rw [hs.2.1, nI_succ]))
              refine kx_call (z := 38) (as := [.ref 49, .int (-3)]) (rest := []) (v := none) (h1 := kv_wd (kv_up (kv_up (kv_up g 48 3 ((g 48 3) + 1)) 50 ln (-3)) 49 2 (nI (ln + 1))) w) rfl (kx_ev_le (d := 0 + 1) (by omega) (ev_add (d := 0) ln (kx_CS_u hs r1).2.2.2.2 (by omega) (-3))) ?_
              refine kx_st 0 (pc' := 65) (L' := [some (.ref 48), some (.int (nI op)), some (.int 121), some (.int 3)]) (st' := []) (h' := kv_wd (kv_up (kv_up (kv_up g 48 3 ((g 48 3) + 1)) 50 ln (-3)) 49 2 (nI (ln + 1))) w) rfl ?_
              refine kx_st 1 (pc' := 66) (L' := [some (.ref 48), some (.int (nI op)), some (.int 121), some (.int 3)]) (st' := [.int 1]) (h' := kv_wd (kv_up (kv_up (kv_up g 48 3 ((g 48 3) + 1)) 50 ln (-3)) 49 2 (nI (ln + 1))) w) rfl ?_
              refine kx_ret (v := some (.int 1)) rfl ?_
              exact ⟨rfl, _, rfl, kx_CR_u r1 (kx_CR_add (kx_CS_u hs r1) (-3))⟩
            · exact absurd h27 (by decide)
          · exact absurd (by rw [hs.2.1, hs.1]; exact nI_lt (a := a) (b := n) hlt (by omega)) h8)
        exact ⟨g', kx_ev_le (by omega) he, hh⟩
      · intro A B C
        refine ⟨C, fun _ st => rfl, ?_⟩
        intro E d g w hs
        have hbt : kx_bt tx n a = 121 := by rw [show kx_bt tx n a = tx a from if_pos hlt]; exact hx
        obtain ⟨v0, hf, he, rfl, g', rfl, hh⟩ := kx_evP (E := E) (d := d + (6 * (5 - op) + 3)) (y := 160) (h := kv_wd g w) (as := [.ref 65]) (P := fun v0 h => v0 = (some (.int C) : Option Value) ∧ ∃ g' : kv_S, h = kv_wd g' w ∧ kx_RG g g' (a + 1) op true) (by decide) (Nat.le_of_ble_eq_true rfl) (by
          refine kx_st 0 (pc' := 0) (L' := [some (.ref 65), none, none]) (st' := []) (h' := kv_wd g w) rfl ?_
          refine kx_st 3 (pc' := 5) (L' := [some (.ref 65), none, none]) (st' := [.int (g 65 8), .ref 65]) (h' := kv_wd g w) rfl ?_
          refine kx_call (z := 155) (as := [.ref 65, .int (g 65 8)]) (rest := []) (v := some (.int 121)) (h1 := kv_wd g w) rfl (by rw [show g 65 8 = nI a from hs.1.2.1]; have z := ev_byteAt (E := E) (d := 0) (w := w) hs n50 (by omega) a (by omega); rw [hbt] at z; exact kx_ev_le (by omega) z) ?_
          refine kx_st 0 (pc' := 8) (L' := [some (.ref 65), none, none]) (st' := [.int 121]) (h' := kv_wd g w) rfl ?_
          refine kx_st 2 (pc' := 10) (L' := [some (.ref 65), some (.int 121), none]) (st' := [.int 121]) (h' := kv_wd g w) rfl ?_
          refine kx_call (z := 156) (as := [.int 121]) (rest := []) (v := some (.int (kx_b (48 ≤ (121 : Int32) ∧ (121 : Int32) ≤ 57)))) (h1 := kv_wd g w) rfl (kx_ev_le (d := 0 + 2) (by omega) (ev_isDigitM (d := 0) _)) ?_
          refine kx_st 0 (pc' := 13) (L' := [some (.ref 65), some (.int 121), none]) (st' := [.int (kx_b (48 ≤ (121 : Int32) ∧ (121 : Int32) ≤ 57))]) (h' := kv_wd g w) rfl ?_
          refine kx_be (t := 21) rfl rfl (fun (h13 : ¬ (48 ≤ (121 : Int32) ∧ (121 : Int32) ≤ 57)) => ?_) (fun (h13 : (48 ≤ (121 : Int32) ∧ (121 : Int32) ≤ 57)) => ?_)
          · refine kx_st 2 (pc' := 24) (L' := [some (.ref 65), some (.int 121), none]) (st' := [.int 33, .int 121]) (h' := kv_wd g w) rfl ?_
            refine kx_st 1 (pc' := 27) (L' := [some (.ref 65), some (.int 121), none]) (st' := []) (h' := kv_wd g w) rfl ?_
            refine kx_st 2 (pc' := 30) (L' := [some (.ref 65), some (.int 121), none]) (st' := [.int 40, .int 121]) (h' := kv_wd g w) rfl ?_
            refine kx_st 1 (pc' := 33) (L' := [some (.ref 65), some (.int 121), none]) (st' := []) (h' := kv_wd g w) rfl ?_
            refine kx_st 2 (pc' := 35) (L' := [some (.ref 65), some (.int 121), none]) (st' := [.int 121, .ref 65]) (h' := kv_wd g w) rfl ?_
            refine kx_call (z := 159) (as := [.ref 65, .int 121]) (rest := []) (v := some (.int C)) (h1 := kv_wd (kv_up g 65 8 (g 65 8 + 1)) w) rfl (kx_ev_le (d := 0 + 2) (by omega) (ev_named_0_121 (d := 0) hs)) ?_
            refine kx_st 0 (pc' := 38) (L' := [some (.ref 65), some (.int 121), none]) (st' := [.int C]) (h' := kv_wd (kv_up g 65 8 (g 65 8 + 1)) w) rfl ?_
            refine kx_ret (v := some (.int C)) rfl ?_
            exact ⟨rfl, _, rfl, kx_RG_up hs _ (by rw [hs.1.2.1, nI_succ])⟩
          · exact absurd h13 (by decide))
        exact ⟨g', kx_ev_le (by omega) he, hh⟩
    by_cases h33 : tx a = 33
    · have hx := h33
      by_cases hop : op = 5
      · refine ⟨false, a, [], ⟨⟨Nat.le_refl _, han⟩, fun z => by cases z⟩, ?_, ?_⟩
        · intro E d g w ln hE hs hln
          obtain ⟨v0, hf, he, rfl, g', rfl, hh⟩ := kx_evP (E := E) (d := d + (8 * (5 - op) + 2)) (y := 49) (h := kv_wd g w) (as := [.ref 48, .int (nI op)]) (P := fun v0 h => v0 = (some (.int 0) : Option Value) ∧ ∃ g' : kv_S, h = kv_wd g' w ∧ kx_CR g g' a false ln []) (by decide) (Nat.le_of_ble_eq_true rfl) (by
            refine kx_st 0 (pc' := 0) (L' := [some (.ref 48), some (.int (nI op)), none, none]) (st' := []) (h' := kv_wd g w) rfl ?_
            refine kx_st 4 (pc' := 8) (L' := [some (.ref 48), some (.int (nI op)), none, none]) (st' := [.int (g 48 2), .int (g 48 3)]) (h' := kv_wd g w) rfl ?_
            refine kx_bi (t := 13) rfl rfl (fun (h8 : g 48 3 < g 48 2) => ?_) (fun (h8 : ¬ (g 48 3 < g 48 2)) => ?_)
            · refine kx_st 4 (pc' := 21) (L' := [some (.ref 48), some (.int (nI op)), none, none]) (st' := [.int (g 48 3), .ref 52]) (h' := kv_wd g w) rfl ?_
              refine kx_ia (k := a) rfl rfl (by decide) hs.2.1 (by omega) (by decide) ?_
              refine kx_st 1 (pc' := 23) (L' := [some (.ref 48), some (.int (nI op)), some (.int (g 52 a)), none]) (st' := []) (h' := kv_wd g w) rfl ?_
              rw [hs.2.2.2.1 a hlt, hx]
              refine kx_st 1 (pc' := 24) (L' := [some (.ref 48), some (.int (nI op)), some (.int 33), none]) (st' := [.int 33]) (h' := kv_wd g w) rfl ?_
              refine kx_call (z := 53) (as := [.int 33]) (rest := []) (v := some (.int (kx_b (48 ≤ (33 : Int32) ∧ (33 : Int32) ≤ 57)))) (h1 := kv_wd g w) rfl (kx_ev_le (d := 0 + 1) (by omega) (ev_isDigitX (d := 0) _)) ?_
              refine kx_st 0 (pc' := 27) (L' := [some (.ref 48), some (.int (nI op)), some (.int 33), none]) (st' := [.int (kx_b (48 ≤ (33 : Int32) ∧ (33 : Int32) ≤ 57))]) (h' := kv_wd g w) rfl ?_
              refine kx_be (t := 36) rfl rfl (fun (h27 : ¬ (48 ≤ (33 : Int32) ∧ (33 : Int32) ≤ 57)) => ?_) (fun (h27 : (48 ≤ (33 : Int32) ∧ (33 : Int32) ≤ 57)) => ?_)
              · refine kx_st 2 (pc' := 38) (L' := [some (.ref 48), some (.int (nI op)), some (.int 33), none]) (st' := [.int 33, .ref 48]) (h' := kv_wd g w) rfl ?_
                refine kx_call (z := 54) (as := [.ref 48, .int 33]) (rest := []) (v := some (.int 0)) (h1 := kv_wd g w) rfl (kx_ev_le (d := 0 + 1) (by omega) (ev_nm_0_n (d := 0) hE hs.2.2.1 33 ⟨by decide, by decide, by decide⟩)) ?_
                refine kx_st 0 (pc' := 41) (L' := [some (.ref 48), some (.int (nI op)), some (.int 33), none]) (st' := [.int 0]) (h' := kv_wd g w) rfl ?_
                refine kx_st 2 (pc' := 43) (L' := [some (.ref 48), some (.int (nI op)), some (.int 33), some (.int 0)]) (st' := [.int 0]) (h' := kv_wd g w) rfl ?_
                refine kx_st 1 (pc' := 67) (L' := [some (.ref 48), some (.int (nI op)), some (.int 33), some (.int 0)]) (st' := []) (h' := kv_wd g w) rfl ?_
                refine kx_st 2 (pc' := 69) (L' := [some (.ref 48), some (.int (nI op)), some (.int 33), some (.int 0)]) (st' := [.int 5, .int (nI op)]) (h' := kv_wd g w) rfl ?_
                refine kx_bi (t := 74) rfl rfl (fun (h69 : nI op < 5) => ?_) (fun (h69 : ¬ (nI op < 5)) => ?_)
                · exact absurd h69 (by rw [hop]; decide)
                · refine kx_st 0 (pc' := 72) (L' := [some (.ref 48), some (.int (nI op)), some (.int 33), some (.int 0)]) (st' := []) (h' := kv_wd g w) rfl ?_
                  refine kx_st 1 (pc' := 73) (L' := [some (.ref 48), some (.int (nI op)), some (.int 33), some (.int 0)]) (st' := [.int 0]) (h' := kv_wd g w) rfl ?_
                  refine kx_ret (v := some (.int 0)) rfl ?_
                  exact ⟨rfl, _, rfl, kx_CR_0 hs false⟩
              · exact absurd h27 (by decide)
            · exact absurd (by rw [hs.2.1, hs.1]; exact nI_lt (a := a) (b := n) hlt (by omega)) h8)
          exact ⟨g', kx_ev_le (by omega) he, hh⟩
        · intro A B C
          refine ⟨0, (fun z => nomatch z), ?_⟩
          intro E d g w hs
          have hbt : kx_bt tx n a = 33 := by rw [show kx_bt tx n a = tx a from if_pos hlt]; exact hx
          obtain ⟨v0, hf, he, rfl, g', rfl, hh⟩ := kx_evP (E := E) (d := d + (6 * (5 - op) + 3)) (y := 160) (h := kv_wd g w) (as := [.ref 65]) (P := fun v0 h => v0 = (some (.int 0) : Option Value) ∧ ∃ g' : kv_S, h = kv_wd g' w ∧ kx_RG g g' a op false) (by decide) (Nat.le_of_ble_eq_true rfl) (by
            refine kx_st 0 (pc' := 0) (L' := [some (.ref 65), none, none]) (st' := []) (h' := kv_wd g w) rfl ?_
            refine kx_st 3 (pc' := 5) (L' := [some (.ref 65), none, none]) (st' := [.int (g 65 8), .ref 65]) (h' := kv_wd g w) rfl ?_
            refine kx_call (z := 155) (as := [.ref 65, .int (g 65 8)]) (rest := []) (v := some (.int 33)) (h1 := kv_wd g w) rfl (by rw [show g 65 8 = nI a from hs.1.2.1]; have z := ev_byteAt (E := E) (d := 0) (w := w) hs n50 (by omega) a (by omega); rw [hbt] at z; exact kx_ev_le (by omega) z) ?_
            refine kx_st 0 (pc' := 8) (L' := [some (.ref 65), none, none]) (st' := [.int 33]) (h' := kv_wd g w) rfl ?_
            refine kx_st 2 (pc' := 10) (L' := [some (.ref 65), some (.int 33), none]) (st' := [.int 33]) (h' := kv_wd g w) rfl ?_
            refine kx_call (z := 156) (as := [.int 33]) (rest := []) (v := some (.int (kx_b (48 ≤ (33 : Int32) ∧ (33 : Int32) ≤ 57)))) (h1 := kv_wd g w) rfl (kx_ev_le (d := 0 + 2) (by omega) (ev_isDigitM (d := 0) _)) ?_
            refine kx_st 0 (pc' := 13) (L' := [some (.ref 65), some (.int 33), none]) (st' := [.int (kx_b (48 ≤ (33 : Int32) ∧ (33 : Int32) ≤ 57))]) (h' := kv_wd g w) rfl ?_
            refine kx_be (t := 21) rfl rfl (fun (h13 : ¬ (48 ≤ (33 : Int32) ∧ (33 : Int32) ≤ 57)) => ?_) (fun (h13 : (48 ≤ (33 : Int32) ∧ (33 : Int32) ≤ 57)) => ?_)
            · refine kx_st 2 (pc' := 24) (L' := [some (.ref 65), some (.int 33), none]) (st' := [.int 33, .int 33]) (h' := kv_wd g w) rfl ?_
              refine kx_st 1 (pc' := 39) (L' := [some (.ref 65), some (.int 33), none]) (st' := []) (h' := kv_wd g w) rfl ?_
              refine kx_st 3 (pc' := 44) (L' := [some (.ref 65), some (.int 33), none]) (st' := [.int 5, .int (g 65 10)]) (h' := kv_wd g w) rfl ?_
              refine kx_bi (t := 52) rfl rfl (fun (h44 : ¬ g 65 10 = 5) => ?_) (fun (h44 : ¬ (¬ g 65 10 = 5)) => ?_)
              · exact absurd (by rw [hs.1.2.2.2, hop]; rfl) h44
              · refine kx_st 0 (pc' := 47) (L' := [some (.ref 65), some (.int 33), none]) (st' := []) (h' := kv_wd g w) rfl ?_
                refine kx_st 1 (pc' := 48) (L' := [some (.ref 65), some (.int 33), none]) (st' := [.ref 65]) (h' := kv_wd g w) rfl ?_
                refine kx_call (z := 157) (as := [.ref 65]) (rest := []) (v := some (.int 0)) (h1 := kv_wd (kv_up g 65 14 0) w) rfl (kx_ev_le (d := 0 + 1) (by omega) (ev_fails (d := 0))) ?_
                refine kx_st 0 (pc' := 51) (L' := [some (.ref 65), some (.int 33), none]) (st' := [.int 0]) (h' := kv_wd (kv_up g 65 14 0) w) rfl ?_
                refine kx_ret (v := some (.int 0)) rfl ?_
                exact ⟨rfl, _, rfl, kx_RG_f hs.1.2.1 hs.1.2.2.2⟩
            · exact absurd h13 (by decide))
          exact ⟨g', kx_ev_le (by omega) he, hh⟩
      · obtain ⟨ok, a2, cd, hb, hpx, hpm⟩ := hq (by omega) (a + 1) (by omega)
        have hnt := kx_not (by omega) hlt hb hpx
        refine ⟨ok, a2, cd ++ [-33], ⟨⟨by have := hb.1; omega, hb.1.2⟩, fun z => ?_⟩, ?_, ?_⟩
        · have q1 := hb.2 z
          rw [List.length_append, kx_nv_app, show kx_nv [-33] = 0 from rfl, List.length_singleton]
          omega
        · intro E d g w ln hE hs hln
          obtain ⟨g4, e4, r4⟩ := hnt E d g w ln hE hs hln
          cases ok with
          | true =>
            obtain ⟨v0, hf, he, rfl, g', rfl, hh⟩ := kx_evP (E := E) (d := d + (8 * (5 - op) + 2)) (y := 49) (h := kv_wd g w) (as := [.ref 48, .int (nI op)]) (P := fun v0 h => v0 = (some (.int 1) : Option Value) ∧ ∃ g' : kv_S, h = kv_wd g' w ∧ kx_CR g g' a2 true ln (cd ++ [-33])) (by decide) (Nat.le_of_ble_eq_true rfl) (by
              refine kx_st 0 (pc' := 0) (L' := [some (.ref 48), some (.int (nI op)), none, none]) (st' := []) (h' := kv_wd g w) rfl ?_
              refine kx_st 4 (pc' := 8) (L' := [some (.ref 48), some (.int (nI op)), none, none]) (st' := [.int (g 48 2), .int (g 48 3)]) (h' := kv_wd g w) rfl ?_
              refine kx_bi (t := 13) rfl rfl (fun (h8 : g 48 3 < g 48 2) => ?_) (fun (h8 : ¬ (g 48 3 < g 48 2)) => ?_)
              · refine kx_st 4 (pc' := 21) (L' := [some (.ref 48), some (.int (nI op)), none, none]) (st' := [.int (g 48 3), .ref 52]) (h' := kv_wd g w) rfl ?_
                refine kx_ia (k := a) rfl rfl (by decide) hs.2.1 (by omega) (by decide) ?_
                refine kx_st 1 (pc' := 23) (L' := [some (.ref 48), some (.int (nI op)), some (.int (g 52 a)), none]) (st' := []) (h' := kv_wd g w) rfl ?_
                rw [hs.2.2.2.1 a hlt, hx]
                refine kx_st 1 (pc' := 24) (L' := [some (.ref 48), some (.int (nI op)), some (.int 33), none]) (st' := [.int 33]) (h' := kv_wd g w) rfl ?_
                refine kx_call (z := 53) (as := [.int 33]) (rest := []) (v := some (.int (kx_b (48 ≤ (33 : Int32) ∧ (33 : Int32) ≤ 57)))) (h1 := kv_wd g w) rfl (kx_ev_le (d := 0 + 1) (by omega) (ev_isDigitX (d := 0) _)) ?_
                refine kx_st 0 (pc' := 27) (L' := [some (.ref 48), some (.int (nI op)), some (.int 33), none]) (st' := [.int (kx_b (48 ≤ (33 : Int32) ∧ (33 : Int32) ≤ 57))]) (h' := kv_wd g w) rfl ?_
                refine kx_be (t := 36) rfl rfl (fun (h27 : ¬ (48 ≤ (33 : Int32) ∧ (33 : Int32) ≤ 57)) => ?_) (fun (h27 : (48 ≤ (33 : Int32) ∧ (33 : Int32) ≤ 57)) => ?_)
                · refine kx_st 2 (pc' := 38) (L' := [some (.ref 48), some (.int (nI op)), some (.int 33), none]) (st' := [.int 33, .ref 48]) (h' := kv_wd g w) rfl ?_
                  refine kx_call (z := 54) (as := [.ref 48, .int 33]) (rest := []) (v := some (.int 0)) (h1 := kv_wd g w) rfl (kx_ev_le (d := 0 + 1) (by omega) (ev_nm_0_n (d := 0) hE hs.2.2.1 33 ⟨by decide, by decide, by decide⟩)) ?_
                  refine kx_st 0 (pc' := 41) (L' := [some (.ref 48), some (.int (nI op)), some (.int 33), none]) (st' := [.int 0]) (h' := kv_wd g w) rfl ?_
                  refine kx_st 2 (pc' := 43) (L' := [some (.ref 48), some (.int (nI op)), some (.int 33), some (.int 0)]) (st' := [.int 0]) (h' := kv_wd g w) rfl ?_
                  refine kx_st 1 (pc' := 67) (L' := [some (.ref 48), some (.int (nI op)), some (.int 33), some (.int 0)]) (st' := []) (h' := kv_wd g w) rfl ?_
                  refine kx_st 2 (pc' := 69) (L' := [some (.ref 48), some (.int (nI op)), some (.int 33), some (.int 0)]) (st' := [.int 5, .int (nI op)]) (h' := kv_wd g w) rfl ?_
                  refine kx_bi (t := 74) rfl rfl (fun (h69 : nI op < 5) => ?_) (fun (h69 : ¬ (nI op < 5)) => ?_)
                  · refine kx_st 2 (pc' := 77) (L' := [some (.ref 48), some (.int (nI op)), some (.int 33), some (.int 0)]) (st' := [.int 33, .int 33]) (h' := kv_wd g w) rfl ?_
                    refine kx_st 1 (pc' := 80) (L' := [some (.ref 48), some (.int (nI op)), some (.int 33), some (.int 0)]) (st' := []) (h' := kv_wd g w) rfl ?_
                    refine kx_st 4 (pc' := 84) (L' := [some (.ref 48), some (.int (nI op)), some (.int 33), some (.int 0)]) (st' := [.int ((nI op) + 1), .ref 48]) (h' := kv_wd g w) rfl ?_
                    refine kx_call (z := 50) (as := [.ref 48, .int ((nI op) + 1)]) (rest := []) (v := some (.int 1)) (h1 := kv_wd g4 w) rfl (by rw [← nI_succ]; exact kx_ev_le (by omega) e4) ?_
                    refine kx_st 0 (pc' := 87) (L' := [some (.ref 48), some (.int (nI op)), some (.int 33), some (.int 0)]) (st' := [.int 1]) (h' := kv_wd g4 w) rfl ?_
                    refine kx_ret (v := some (.int 1)) rfl ?_
                    exact ⟨rfl, _, rfl, r4⟩
                  · exact absurd (nI_lt (a := op) (b := 5) (by omega) (by omega)) h69
                · exact absurd h27 (by decide)
              · exact absurd (by rw [hs.2.1, hs.1]; exact nI_lt (a := a) (b := n) hlt (by omega)) h8)
            exact ⟨g', kx_ev_le (by omega) he, hh⟩
          | false =>
            obtain ⟨v0, hf, he, rfl, g', rfl, hh⟩ := kx_evP (E := E) (d := d + (8 * (5 - op) + 2)) (y := 49) (h := kv_wd g w) (as := [.ref 48, .int (nI op)]) (P := fun v0 h => v0 = (some (.int 0) : Option Value) ∧ ∃ g' : kv_S, h = kv_wd g' w ∧ kx_CR g g' a2 false ln (cd ++ [-33])) (by decide) (Nat.le_of_ble_eq_true rfl) (by
              refine kx_st 0 (pc' := 0) (L' := [some (.ref 48), some (.int (nI op)), none, none]) (st' := []) (h' := kv_wd g w) rfl ?_
              refine kx_st 4 (pc' := 8) (L' := [some (.ref 48), some (.int (nI op)), none, none]) (st' := [.int (g 48 2), .int (g 48 3)]) (h' := kv_wd g w) rfl ?_
              refine kx_bi (t := 13) rfl rfl (fun (h8 : g 48 3 < g 48 2) => ?_) (fun (h8 : ¬ (g 48 3 < g 48 2)) => ?_)
              · refine kx_st 4 (pc' := 21) (L' := [some (.ref 48), some (.int (nI op)), none, none]) (st' := [.int (g 48 3), .ref 52]) (h' := kv_wd g w) rfl ?_
                refine kx_ia (k := a) rfl rfl (by decide) hs.2.1 (by omega) (by decide) ?_
                refine kx_st 1 (pc' := 23) (L' := [some (.ref 48), some (.int (nI op)), some (.int (g 52 a)), none]) (st' := []) (h' := kv_wd g w) rfl ?_
                rw [hs.2.2.2.1 a hlt, hx]
                refine kx_st 1 (pc' := 24) (L' := [some (.ref 48), some (.int (nI op)), some (.int 33), none]) (st' := [.int 33]) (h' := kv_wd g w) rfl ?_
                refine kx_call (z := 53) (as := [.int 33]) (rest := []) (v := some (.int (kx_b (48 ≤ (33 : Int32) ∧ (33 : Int32) ≤ 57)))) (h1 := kv_wd g w) rfl (kx_ev_le (d := 0 + 1) (by omega) (ev_isDigitX (d := 0) _)) ?_
                refine kx_st 0 (pc' := 27) (L' := [some (.ref 48), some (.int (nI op)), some (.int 33), none]) (st' := [.int (kx_b (48 ≤ (33 : Int32) ∧ (33 : Int32) ≤ 57))]) (h' := kv_wd g w) rfl ?_
                refine kx_be (t := 36) rfl rfl (fun (h27 : ¬ (48 ≤ (33 : Int32) ∧ (33 : Int32) ≤ 57)) => ?_) (fun (h27 : (48 ≤ (33 : Int32) ∧ (33 : Int32) ≤ 57)) => ?_)
                · refine kx_st 2 (pc' := 38) (L' := [some (.ref 48), some (.int (nI op)), some (.int 33), none]) (st' := [.int 33, .ref 48]) (h' := kv_wd g w) rfl ?_
                  refine kx_call (z := 54) (as := [.ref 48, .int 33]) (rest := []) (v := some (.int 0)) (h1 := kv_wd g w) rfl (kx_ev_le (d := 0 + 1) (by omega) (ev_nm_0_n (d := 0) hE hs.2.2.1 33 ⟨by decide, by decide, by decide⟩)) ?_
                  refine kx_st 0 (pc' := 41) (L' := [some (.ref 48), some (.int (nI op)), some (.int 33), none]) (st' := [.int 0]) (h' := kv_wd g w) rfl ?_
                  refine kx_st 2 (pc' := 43) (L' := [some (.ref 48), some (.int (nI op)), some (.int 33), some (.int 0)]) (st' := [.int 0]) (h' := kv_wd g w) rfl ?_
                  refine kx_st 1 (pc' := 67) (L' := [some (.ref 48), some (.int (nI op)), some (.int 33), some (.int 0)]) (st' := []) (h' := kv_wd g w) rfl ?_
                  refine kx_st 2 (pc' := 69) (L' := [some (.ref 48), some (.int (nI op)), some (.int 33), some (.int 0)]) (st' := [.int 5, .int (nI op)]) (h' := kv_wd g w) rfl ?_
                  refine kx_bi (t := 74) rfl rfl (fun (h69 : nI op < 5) => ?_) (fun (h69 : ¬ (nI op < 5)) => ?_)
                  · refine kx_st 2 (pc' := 77) (L' := [some (.ref 48), some (.int (nI op)), some (.int 33), some (.int 0)]) (st' := [.int 33, .int 33]) (h' := kv_wd g w) rfl ?_
                    refine kx_st 1 (pc' := 80) (L' := [some (.ref 48), some (.int (nI op)), some (.int 33), some (.int 0)]) (st' := []) (h' := kv_wd g w) rfl ?_
                    refine kx_st 4 (pc' := 84) (L' := [some (.ref 48), some (.int (nI op)), some (.int 33), some (.int 0)]) (st' := [.int ((nI op) + 1), .ref 48]) (h' := kv_wd g w) rfl ?_
                    refine kx_call (z := 50) (as := [.ref 48, .int ((nI op) + 1)]) (rest := []) (v := some (.int 0)) (h1 := kv_wd g4 w) rfl (by rw [← nI_succ]; exact kx_ev_le (by omega) e4) ?_
                    refine kx_st 0 (pc' := 87) (L' := [some (.ref 48), some (.int (nI op)), some (.int 33), some (.int 0)]) (st' := [.int 0]) (h' := kv_wd g4 w) rfl ?_
                    refine kx_ret (v := some (.int 0)) rfl ?_
                    exact ⟨rfl, _, rfl, r4⟩
                  · exact absurd (nI_lt (a := op) (b := 5) (by omega) (by omega)) h69
                · exact absurd h27 (by decide)
              · exact absurd (by rw [hs.2.1, hs.1]; exact nI_lt (a := a) (b := n) hlt (by omega)) h8)
            exact ⟨g', kx_ev_le (by omega) he, hh⟩
        · intro A B C
          obtain ⟨v, hv1, hv2⟩ := hpm A B C
          refine ⟨if v = 0 then 1 else 0, fun z st => ?_, ?_⟩
          · rw [kx_ex_app, hv1 z st]
            show kx_e1 A B C (-33) (v :: st) = _
            unfold kx_e1
            rw [if_neg (by decide)]
            rfl
          · intro E d g w hs
            have hbt : kx_bt tx n a = 33 := by rw [show kx_bt tx n a = tx a from if_pos hlt]; exact hx
            have hs2 : kx_RS tx n 0 (kv_up (kv_up g 65 10 (g 65 10 + 1)) 65 8 ((kv_up g 65 10 (g 65 10 + 1)) 65 8 + 1)) (a + 1) (op + 1) A B C := ⟨⟨hs.1.1, by show g 65 8 + 1 = _; rw [hs.1.2.1, nI_succ], hs.1.2.2.1, by show g 65 10 + 1 = _; rw [hs.1.2.2.2, nI_succ]⟩, hs.2.1, hs.2.2.1, hs.2.2.2⟩
            obtain ⟨v0, hf, he, rfl, g', rfl, hh⟩ := kx_evP (E := E) (d := d + (6 * (5 - op) + 3)) (y := 160) (h := kv_wd g w) (as := [.ref 65]) (P := fun v0 h => v0 = (some (.int (if v = 0 then 1 else 0)) : Option Value) ∧ ∃ g' : kv_S, h = kv_wd g' w ∧ kx_RG g g' a2 op ok) (by decide) (Nat.le_of_ble_eq_true rfl) (by
              refine kx_st 0 (pc' := 0) (L' := [some (.ref 65), none, none]) (st' := []) (h' := kv_wd g w) rfl ?_
              refine kx_st 3 (pc' := 5) (L' := [some (.ref 65), none, none]) (st' := [.int (g 65 8), .ref 65]) (h' := kv_wd g w) rfl ?_
              refine kx_call (z := 155) (as := [.ref 65, .int (g 65 8)]) (rest := []) (v := some (.int 33)) (h1 := kv_wd g w) rfl (by rw [show g 65 8 = nI a from hs.1.2.1]; have z := ev_byteAt (E := E) (d := 0) (w := w) hs n50 (by omega) a (by omega); rw [hbt] at z; exact kx_ev_le (by omega) z) ?_
              refine kx_st 0 (pc' := 8) (L' := [some (.ref 65), none, none]) (st' := [.int 33]) (h' := kv_wd g w) rfl ?_
              refine kx_st 2 (pc' := 10) (L' := [some (.ref 65), some (.int 33), none]) (st' := [.int 33]) (h' := kv_wd g w) rfl ?_
              refine kx_call (z := 156) (as := [.int 33]) (rest := []) (v := some (.int (kx_b (48 ≤ (33 : Int32) ∧ (33 : Int32) ≤ 57)))) (h1 := kv_wd g w) rfl (kx_ev_le (d := 0 + 2) (by omega) (ev_isDigitM (d := 0) _)) ?_
              refine kx_st 0 (pc' := 13) (L' := [some (.ref 65), some (.int 33), none]) (st' := [.int (kx_b (48 ≤ (33 : Int32) ∧ (33 : Int32) ≤ 57))]) (h' := kv_wd g w) rfl ?_
              refine kx_be (t := 21) rfl rfl (fun (h13 : ¬ (48 ≤ (33 : Int32) ∧ (33 : Int32) ≤ 57)) => ?_) (fun (h13 : (48 ≤ (33 : Int32) ∧ (33 : Int32) ≤ 57)) => ?_)
              · refine kx_st 2 (pc' := 24) (L' := [some (.ref 65), some (.int 33), none]) (st' := [.int 33, .int 33]) (h' := kv_wd g w) rfl ?_
                refine kx_st 1 (pc' := 39) (L' := [some (.ref 65), some (.int 33), none]) (st' := []) (h' := kv_wd g w) rfl ?_
                refine kx_st 3 (pc' := 44) (L' := [some (.ref 65), some (.int 33), none]) (st' := [.int 5, .int (g 65 10)]) (h' := kv_wd g w) rfl ?_
                refine kx_bi (t := 52) rfl rfl (fun (h44 : ¬ g 65 10 = 5) => ?_) (fun (h44 : ¬ (¬ g 65 10 = 5)) => ?_)
                · refine kx_st 5 (pc' := 59) (L' := [some (.ref 65), some (.int 33), none]) (st' := [.int ((g 65 10) + 1), .ref 65]) (h' := kv_wd g w) rfl ?_
                  refine kx_pf (i := 140) (k := 10) (x := ((g 65 10) + 1)) rfl rfl (by decide) rfl (Nat.le_of_ble_eq_true rfl) rfl rfl rfl ?_
                  refine kx_st 5 (pc' := 69) (L' := [some (.ref 65), some (.int 33), none]) (st' := [.int (((kv_up g 65 10 ((g 65 10) + 1)) 65 8) + 1), .ref 65]) (h' := kv_wd (kv_up g 65 10 ((g 65 10) + 1)) w) rfl ?_
                  refine kx_pf (i := 113) (k := 8) (x := (((kv_up g 65 10 ((g 65 10) + 1)) 65 8) + 1)) rfl rfl (by decide) rfl (Nat.le_of_ble_eq_true rfl) rfl rfl rfl ?_
                  refine kx_st 2 (pc' := 75) (L' := [some (.ref 65), some (.int 33), none]) (st' := [.int 33, .int 33]) (h' := kv_wd (kv_up (kv_up g 65 10 ((g 65 10) + 1)) 65 8 (((kv_up g 65 10 ((g 65 10) + 1)) 65 8) + 1)) w) rfl ?_
                  refine kx_st 1 (pc' := 78) (L' := [some (.ref 65), some (.int 33), none]) (st' := []) (h' := kv_wd (kv_up (kv_up g 65 10 ((g 65 10) + 1)) 65 8 (((kv_up g 65 10 ((g 65 10) + 1)) 65 8) + 1)) w) rfl ?_
                  refine kx_st 1 (pc' := 79) (L' := [some (.ref 65), some (.int 33), none]) (st' := [.ref 65]) (h' := kv_wd (kv_up (kv_up g 65 10 ((g 65 10) + 1)) 65 8 (((kv_up g 65 10 ((g 65 10) + 1)) 65 8) + 1)) w) rfl ?_
                  obtain ⟨g3, e3, r3⟩ := hv2 E d _ w hs2
                  refine kx_call (z := 160) (as := [.ref 65]) (rest := []) (v := some (.int v)) (h1 := kv_wd g3 w) rfl (kx_ev_le (by omega) e3) ?_
                  refine kx_st 0 (pc' := 82) (L' := [some (.ref 65), some (.int 33), none]) (st' := [.int v]) (h' := kv_wd g3 w) rfl ?_
                  refine kx_st 7 (pc' := 97) (L' := [some (.ref 65), some (.int 33), some (.int v)]) (st' := [.int ((g3 65 10) - 1), .ref 65]) (h' := kv_wd g3 w) rfl ?_
                  refine kx_pf (i := 140) (k := 10) (x := ((g3 65 10) - 1)) rfl rfl (by decide) rfl (Nat.le_of_ble_eq_true rfl) rfl rfl rfl ?_
                  refine kx_st 2 (pc' := 103) (L' := [some (.ref 65), some (.int 33), some (.int v)]) (st' := [.int 33, .int 33]) (h' := kv_wd (kv_up g3 65 10 ((g3 65 10) - 1)) w) rfl ?_
                  refine kx_st 1 (pc' := 106) (L' := [some (.ref 65), some (.int 33), some (.int v)]) (st' := []) (h' := kv_wd (kv_up g3 65 10 ((g3 65 10) - 1)) w) rfl ?_
                  refine kx_st 1 (pc' := 107) (L' := [some (.ref 65), some (.int 33), some (.int v)]) (st' := [.int v]) (h' := kv_wd (kv_up g3 65 10 ((g3 65 10) - 1)) w) rfl ?_
                  refine kx_bc (t := 114) rfl rfl (fun (h107 : ¬ v = 0) => ?_) (fun (h107 : ¬ (¬ v = 0)) => ?_)
                  · refine kx_st 1 (pc' := 115) (L' := [some (.ref 65), some (.int 33), some (.int v)]) (st' := [.int 0]) (h' := kv_wd (kv_up g3 65 10 ((g3 65 10) - 1)) w) rfl ?_
                    refine kx_ret (v := some (.int 0)) rfl ?_
                    exact ⟨by rw [if_neg h107], _, rfl, kx_RG_op (fun b hb => by rw [kv_up_ne hb, kv_up_ne hb]) (fun k k8 k10 => (show upd (upd (g 65) 10 _) 8 _ k = _ from (kx_upn k8).trans (kx_upn k10))) r3⟩
                  · refine kx_st 0 (pc' := 110) (L' := [some (.ref 65), some (.int 33), some (.int v)]) (st' := []) (h' := kv_wd (kv_up g3 65 10 ((g3 65 10) - 1)) w) rfl ?_
                    refine kx_st 2 (pc' := 115) (L' := [some (.ref 65), some (.int 33), some (.int v)]) (st' := [.int 1]) (h' := kv_wd (kv_up g3 65 10 ((g3 65 10) - 1)) w) rfl ?_
                    refine kx_ret (v := some (.int 1)) rfl ?_
                    exact ⟨by rw [if_pos (Classical.not_not.mp h107)], _, rfl, kx_RG_op (fun b hb => by rw [kv_up_ne hb, kv_up_ne hb]) (fun k k8 k10 => (show upd (upd (g 65) 10 _) 8 _ k = _ from (kx_upn k8).trans (kx_upn k10))) r3⟩
                · exact absurd (Classical.not_not.mp h44) (by rw [hs.1.2.2.2]; exact kx_ne_nI (a := op) (b := 5) (by omega) (by omega) hop)
              · exact absurd h13 (by decide))
            exact ⟨g', kx_ev_le (by omega) he, hh⟩
    by_cases h40 : tx a = 40
    · have hx := h40
      by_cases hop : op = 5
      · refine ⟨false, a, [], ⟨⟨Nat.le_refl _, han⟩, fun z => by cases z⟩, ?_, ?_⟩
        · intro E d g w ln hE hs hln
          obtain ⟨v0, hf, he, rfl, g', rfl, hh⟩ := kx_evP (E := E) (d := d + (8 * (5 - op) + 2)) (y := 49) (h := kv_wd g w) (as := [.ref 48, .int (nI op)]) (P := fun v0 h => v0 = (some (.int 0) : Option Value) ∧ ∃ g' : kv_S, h = kv_wd g' w ∧ kx_CR g g' a false ln []) (by decide) (Nat.le_of_ble_eq_true rfl) (by
            refine kx_st 0 (pc' := 0) (L' := [some (.ref 48), some (.int (nI op)), none, none]) (st' := []) (h' := kv_wd g w) rfl ?_
            refine kx_st 4 (pc' := 8) (L' := [some (.ref 48), some (.int (nI op)), none, none]) (st' := [.int (g 48 2), .int (g 48 3)]) (h' := kv_wd g w) rfl ?_
            refine kx_bi (t := 13) rfl rfl (fun (h8 : g 48 3 < g 48 2) => ?_) (fun (h8 : ¬ (g 48 3 < g 48 2)) => ?_)
            · refine kx_st 4 (pc' := 21) (L' := [some (.ref 48), some (.int (nI op)), none, none]) (st' := [.int (g 48 3), .ref 52]) (h' := kv_wd g w) rfl ?_
              refine kx_ia (k := a) rfl rfl (by decide) hs.2.1 (by omega) (by decide) ?_
              refine kx_st 1 (pc' := 23) (L' := [some (.ref 48), some (.int (nI op)), some (.int (g 52 a)), none]) (st' := []) (h' := kv_wd g w) rfl ?_
              rw [hs.2.2.2.1 a hlt, hx]
              refine kx_st 1 (pc' := 24) (L' := [some (.ref 48), some (.int (nI op)), some (.int 40), none]) (st' := [.int 40]) (h' := kv_wd g w) rfl ?_
              refine kx_call (z := 53) (as := [.int 40]) (rest := []) (v := some (.int (kx_b (48 ≤ (40 : Int32) ∧ (40 : Int32) ≤ 57)))) (h1 := kv_wd g w) rfl (kx_ev_le (d := 0 + 1) (by omega) (ev_isDigitX (d := 0) _)) ?_
              refine kx_st 0 (pc' := 27) (L' := [some (.ref 48), some (.int (nI op)), some (.int 40), none]) (st' := [.int (kx_b (48 ≤ (40 : Int32) ∧ (40 : Int32) ≤ 57))]) (h' := kv_wd g w) rfl ?_
              refine kx_be (t := 36) rfl rfl (fun (h27 : ¬ (48 ≤ (40 : Int32) ∧ (40 : Int32) ≤ 57)) => ?_) (fun (h27 : (48 ≤ (40 : Int32) ∧ (40 : Int32) ≤ 57)) => ?_)
              · refine kx_st 2 (pc' := 38) (L' := [some (.ref 48), some (.int (nI op)), some (.int 40), none]) (st' := [.int 40, .ref 48]) (h' := kv_wd g w) rfl ?_
                refine kx_call (z := 54) (as := [.ref 48, .int 40]) (rest := []) (v := some (.int 0)) (h1 := kv_wd g w) rfl (kx_ev_le (d := 0 + 1) (by omega) (ev_nm_0_n (d := 0) hE hs.2.2.1 40 ⟨by decide, by decide, by decide⟩)) ?_
                refine kx_st 0 (pc' := 41) (L' := [some (.ref 48), some (.int (nI op)), some (.int 40), none]) (st' := [.int 0]) (h' := kv_wd g w) rfl ?_
                refine kx_st 2 (pc' := 43) (L' := [some (.ref 48), some (.int (nI op)), some (.int 40), some (.int 0)]) (st' := [.int 0]) (h' := kv_wd g w) rfl ?_
                refine kx_st 1 (pc' := 67) (L' := [some (.ref 48), some (.int (nI op)), some (.int 40), some (.int 0)]) (st' := []) (h' := kv_wd g w) rfl ?_
                refine kx_st 2 (pc' := 69) (L' := [some (.ref 48), some (.int (nI op)), some (.int 40), some (.int 0)]) (st' := [.int 5, .int (nI op)]) (h' := kv_wd g w) rfl ?_
                refine kx_bi (t := 74) rfl rfl (fun (h69 : nI op < 5) => ?_) (fun (h69 : ¬ (nI op < 5)) => ?_)
                · exact absurd h69 (by rw [hop]; decide)
                · refine kx_st 0 (pc' := 72) (L' := [some (.ref 48), some (.int (nI op)), some (.int 40), some (.int 0)]) (st' := []) (h' := kv_wd g w) rfl ?_
                  refine kx_st 1 (pc' := 73) (L' := [some (.ref 48), some (.int (nI op)), some (.int 40), some (.int 0)]) (st' := [.int 0]) (h' := kv_wd g w) rfl ?_
                  refine kx_ret (v := some (.int 0)) rfl ?_
                  exact ⟨rfl, _, rfl, kx_CR_0 hs false⟩
              · exact absurd h27 (by decide)
            · exact absurd (by rw [hs.2.1, hs.1]; exact nI_lt (a := a) (b := n) hlt (by omega)) h8)
          exact ⟨g', kx_ev_le (by omega) he, hh⟩
        · intro A B C
          refine ⟨0, (fun z => nomatch z), ?_⟩
          intro E d g w hs
          have hbt : kx_bt tx n a = 40 := by rw [show kx_bt tx n a = tx a from if_pos hlt]; exact hx
          obtain ⟨v0, hf, he, rfl, g', rfl, hh⟩ := kx_evP (E := E) (d := d + (6 * (5 - op) + 3)) (y := 160) (h := kv_wd g w) (as := [.ref 65]) (P := fun v0 h => v0 = (some (.int 0) : Option Value) ∧ ∃ g' : kv_S, h = kv_wd g' w ∧ kx_RG g g' a op false) (by decide) (Nat.le_of_ble_eq_true rfl) (by
            refine kx_st 0 (pc' := 0) (L' := [some (.ref 65), none, none]) (st' := []) (h' := kv_wd g w) rfl ?_
            refine kx_st 3 (pc' := 5) (L' := [some (.ref 65), none, none]) (st' := [.int (g 65 8), .ref 65]) (h' := kv_wd g w) rfl ?_
            refine kx_call (z := 155) (as := [.ref 65, .int (g 65 8)]) (rest := []) (v := some (.int 40)) (h1 := kv_wd g w) rfl (by rw [show g 65 8 = nI a from hs.1.2.1]; have z := ev_byteAt (E := E) (d := 0) (w := w) hs n50 (by omega) a (by omega); rw [hbt] at z; exact kx_ev_le (by omega) z) ?_
            refine kx_st 0 (pc' := 8) (L' := [some (.ref 65), none, none]) (st' := [.int 40]) (h' := kv_wd g w) rfl ?_
            refine kx_st 2 (pc' := 10) (L' := [some (.ref 65), some (.int 40), none]) (st' := [.int 40]) (h' := kv_wd g w) rfl ?_
            refine kx_call (z := 156) (as := [.int 40]) (rest := []) (v := some (.int (kx_b (48 ≤ (40 : Int32) ∧ (40 : Int32) ≤ 57)))) (h1 := kv_wd g w) rfl (kx_ev_le (d := 0 + 2) (by omega) (ev_isDigitM (d := 0) _)) ?_
            refine kx_st 0 (pc' := 13) (L' := [some (.ref 65), some (.int 40), none]) (st' := [.int (kx_b (48 ≤ (40 : Int32) ∧ (40 : Int32) ≤ 57))]) (h' := kv_wd g w) rfl ?_
            refine kx_be (t := 21) rfl rfl (fun (h13 : ¬ (48 ≤ (40 : Int32) ∧ (40 : Int32) ≤ 57)) => ?_) (fun (h13 : (48 ≤ (40 : Int32) ∧ (40 : Int32) ≤ 57)) => ?_)
            · refine kx_st 2 (pc' := 24) (L' := [some (.ref 65), some (.int 40), none]) (st' := [.int 33, .int 40]) (h' := kv_wd g w) rfl ?_
              refine kx_st 1 (pc' := 27) (L' := [some (.ref 65), some (.int 40), none]) (st' := []) (h' := kv_wd g w) rfl ?_
              refine kx_st 2 (pc' := 30) (L' := [some (.ref 65), some (.int 40), none]) (st' := [.int 40, .int 40]) (h' := kv_wd g w) rfl ?_
              refine kx_st 1 (pc' := 39) (L' := [some (.ref 65), some (.int 40), none]) (st' := []) (h' := kv_wd g w) rfl ?_
              refine kx_st 3 (pc' := 44) (L' := [some (.ref 65), some (.int 40), none]) (st' := [.int 5, .int (g 65 10)]) (h' := kv_wd g w) rfl ?_
              refine kx_bi (t := 52) rfl rfl (fun (h44 : ¬ g 65 10 = 5) => ?_) (fun (h44 : ¬ (¬ g 65 10 = 5)) => ?_)
              · exact absurd (by rw [hs.1.2.2.2, hop]; rfl) h44
              · refine kx_st 0 (pc' := 47) (L' := [some (.ref 65), some (.int 40), none]) (st' := []) (h' := kv_wd g w) rfl ?_
                refine kx_st 1 (pc' := 48) (L' := [some (.ref 65), some (.int 40), none]) (st' := [.ref 65]) (h' := kv_wd g w) rfl ?_
                refine kx_call (z := 157) (as := [.ref 65]) (rest := []) (v := some (.int 0)) (h1 := kv_wd (kv_up g 65 14 0) w) rfl (kx_ev_le (d := 0 + 1) (by omega) (ev_fails (d := 0))) ?_
                refine kx_st 0 (pc' := 51) (L' := [some (.ref 65), some (.int 40), none]) (st' := [.int 0]) (h' := kv_wd (kv_up g 65 14 0) w) rfl ?_
                refine kx_ret (v := some (.int 0)) rfl ?_
                exact ⟨rfl, _, rfl, kx_RG_f hs.1.2.1 hs.1.2.2.2⟩
            · exact absurd h13 (by decide))
          exact ⟨g', kx_ev_le (by omega) he, hh⟩
      · obtain ⟨ok, a2, cd, hb, hpx, hpm⟩ := hw (by omega) (a + 1) (by omega)
        have hbk := kx_brk (by omega) hlt n50 hb hpx
        have ha2 := hb.1
        by_cases hcl : ok = true ∧ a2 < n ∧ tx a2 = 41
        · have hnt := hbk.1 hcl
          obtain ⟨rfl, hcl2, hcl3⟩ := hcl
          refine ⟨true, a2 + 1, cd, ⟨⟨by omega, by omega⟩, fun _ => ?_⟩, ?_, ?_⟩
          · have q1 := hb.2 rfl
            omega
          · intro E d g w ln hE hs hln
            obtain ⟨g4, e4, r4⟩ := hnt E d g w ln hE hs hln
            obtain ⟨v0, hf, he, rfl, g', rfl, hh⟩ := kx_evP (E := E) (d := d + (8 * (5 - op) + 2)) (y := 49) (h := kv_wd g w) (as := [.ref 48, .int (nI op)]) (P := fun v0 h => v0 = (some (.int 1) : Option Value) ∧ ∃ g' : kv_S, h = kv_wd g' w ∧ kx_CR g g' (a2 + 1) true ln cd) (by decide) (Nat.le_of_ble_eq_true rfl) (by
              refine kx_st 0 (pc' := 0) (L' := [some (.ref 48), some (.int (nI op)), none, none]) (st' := []) (h' := kv_wd g w) rfl ?_
              refine kx_st 4 (pc' := 8) (L' := [some (.ref 48), some (.int (nI op)), none, none]) (st' := [.int (g 48 2), .int (g 48 3)]) (h' := kv_wd g w) rfl ?_
              refine kx_bi (t := 13) rfl rfl (fun (h8 : g 48 3 < g 48 2) => ?_) (fun (h8 : ¬ (g 48 3 < g 48 2)) => ?_)
              · refine kx_st 4 (pc' := 21) (L' := [some (.ref 48), some (.int (nI op)), none, none]) (st' := [.int (g 48 3), .ref 52]) (h' := kv_wd g w) rfl ?_
                refine kx_ia (k := a) rfl rfl (by decide) hs.2.1 (by omega) (by decide) ?_
                refine kx_st 1 (pc' := 23) (L' := [some (.ref 48), some (.int (nI op)), some (.int (g 52 a)), none]) (st' := []) (h' := kv_wd g w) rfl ?_
                rw [hs.2.2.2.1 a hlt, hx]
                refine kx_st 1 (pc' := 24) (L' := [some (.ref 48), some (.int (nI op)), some (.int 40), none]) (st' := [.int 40]) (h' := kv_wd g w) rfl ?_
                refine kx_call (z := 53) (as := [.int 40]) (rest := []) (v := some (.int (kx_b (48 ≤ (40 : Int32) ∧ (40 : Int32) ≤ 57)))) (h1 := kv_wd g w) rfl (kx_ev_le (d := 0 + 1) (by omega) (ev_isDigitX (d := 0) _)) ?_
                refine kx_st 0 (pc' := 27) (L' := [some (.ref 48), some (.int (nI op)), some (.int 40), none]) (st' := [.int (kx_b (48 ≤ (40 : Int32) ∧ (40 : Int32) ≤ 57))]) (h' := kv_wd g w) rfl ?_
                refine kx_be (t := 36) rfl rfl (fun (h27 : ¬ (48 ≤ (40 : Int32) ∧ (40 : Int32) ≤ 57)) => ?_) (fun (h27 : (48 ≤ (40 : Int32) ∧ (40 : Int32) ≤ 57)) => ?_)
                · refine kx_st 2 (pc' := 38) (L' := [some (.ref 48), some (.int (nI op)), some (.int 40), none]) (st' := [.int 40, .ref 48]) (h' := kv_wd g w) rfl ?_
                  refine kx_call (z := 54) (as := [.ref 48, .int 40]) (rest := []) (v := some (.int 0)) (h1 := kv_wd g w) rfl (kx_ev_le (d := 0 + 1) (by omega) (ev_nm_0_n (d := 0) hE hs.2.2.1 40 ⟨by decide, by decide, by decide⟩)) ?_
                  refine kx_st 0 (pc' := 41) (L' := [some (.ref 48), some (.int (nI op)), some (.int 40), none]) (st' := [.int 0]) (h' := kv_wd g w) rfl ?_
                  refine kx_st 2 (pc' := 43) (L' := [some (.ref 48), some (.int (nI op)), some (.int 40), some (.int 0)]) (st' := [.int 0]) (h' := kv_wd g w) rfl ?_
                  refine kx_st 1 (pc' := 67) (L' := [some (.ref 48), some (.int (nI op)), some (.int 40), some (.int 0)]) (st' := []) (h' := kv_wd g w) rfl ?_
                  refine kx_st 2 (pc' := 69) (L' := [some (.ref 48), some (.int (nI op)), some (.int 40), some (.int 0)]) (st' := [.int 5, .int (nI op)]) (h' := kv_wd g w) rfl ?_
                  refine kx_bi (t := 74) rfl rfl (fun (h69 : nI op < 5) => ?_) (fun (h69 : ¬ (nI op < 5)) => ?_)
                  · refine kx_st 2 (pc' := 77) (L' := [some (.ref 48), some (.int (nI op)), some (.int 40), some (.int 0)]) (st' := [.int 33, .int 40]) (h' := kv_wd g w) rfl ?_
                    refine kx_st 1 (pc' := 88) (L' := [some (.ref 48), some (.int (nI op)), some (.int 40), some (.int 0)]) (st' := []) (h' := kv_wd g w) rfl ?_
                    refine kx_st 2 (pc' := 91) (L' := [some (.ref 48), some (.int (nI op)), some (.int 40), some (.int 0)]) (st' := [.int 40, .int 40]) (h' := kv_wd g w) rfl ?_
                    refine kx_st 1 (pc' := 94) (L' := [some (.ref 48), some (.int (nI op)), some (.int 40), some (.int 0)]) (st' := []) (h' := kv_wd g w) rfl ?_
                    refine kx_st 4 (pc' := 98) (L' := [some (.ref 48), some (.int (nI op)), some (.int 40), some (.int 0)]) (st' := [.int ((nI op) + 1), .ref 48]) (h' := kv_wd g w) rfl ?_
                    refine kx_call (z := 51) (as := [.ref 48, .int ((nI op) + 1)]) (rest := []) (v := some (.int 1)) (h1 := kv_wd g4 w) rfl (by rw [← nI_succ]; exact kx_ev_le (by omega) e4) ?_
                    refine kx_st 0 (pc' := 101) (L' := [some (.ref 48), some (.int (nI op)), some (.int 40), some (.int 0)]) (st' := [.int 1]) (h' := kv_wd g4 w) rfl ?_
                    refine kx_st 1 (pc' := 104) (L' := [some (.ref 48), some (.int (nI op)), some (.int 40), some (.int 0)]) (st' := []) (h' := kv_wd g4 w) rfl ?_
                    refine kx_st 2 (pc' := 109) (L' := [some (.ref 48), some (.int (nI op)), some (.int 40), some (.int 0)]) (st' := [.int 1]) (h' := kv_wd g4 w) rfl ?_
                    refine kx_ret (v := some (.int 1)) rfl ?_
                    exact ⟨rfl, _, rfl, r4⟩
                  · exact absurd (nI_lt (a := op) (b := 5) (by omega) (by omega)) h69
                · exact absurd h27 (by decide)
              · exact absurd (by rw [hs.2.1, hs.1]; exact nI_lt (a := a) (b := n) hlt (by omega)) h8)
            exact ⟨g', kx_ev_le (by omega) he, hh⟩
          · intro A B C
            obtain ⟨v, hv1, hv2⟩ := hpm A B C
            refine ⟨v, hv1, ?_⟩
            intro E d g w hs
            have hbt : kx_bt tx n a = 40 := by rw [show kx_bt tx n a = tx a from if_pos hlt]; exact hx
            have hbt2 : kx_bt tx n a2 = 41 := by rw [show kx_bt tx n a2 = tx a2 from if_pos hcl2]; exact hcl3
            have hs2 : kx_RS tx n 0 (kv_up (kv_up g 65 10 (g 65 10 + 1)) 65 8 ((kv_up g 65 10 (g 65 10 + 1)) 65 8 + 1)) (a + 1) (op + 1) A B C := ⟨⟨hs.1.1, by show g 65 8 + 1 = _; rw [hs.1.2.1, nI_succ], hs.1.2.2.1, by show g 65 10 + 1 = _; rw [hs.1.2.2.2, nI_succ]⟩, hs.2.1, hs.2.2.1, hs.2.2.2⟩
            obtain ⟨v0, hf, he, rfl, g', rfl, hh⟩ := kx_evP (E := E) (d := d + (6 * (5 - op) + 3)) (y := 160) (h := kv_wd g w) (as := [.ref 65]) (P := fun v0 h => v0 = (some (.int v) : Option Value) ∧ ∃ g' : kv_S, h = kv_wd g' w ∧ kx_RG g g' (a2 + 1) op true) (by decide) (Nat.le_of_ble_eq_true rfl) (by
              refine kx_st 0 (pc' := 0) (L' := [some (.ref 65), none, none]) (st' := []) (h' := kv_wd g w) rfl ?_
              refine kx_st 3 (pc' := 5) (L' := [some (.ref 65), none, none]) (st' := [.int (g 65 8), .ref 65]) (h' := kv_wd g w) rfl ?_
              refine kx_call (z := 155) (as := [.ref 65, .int (g 65 8)]) (rest := []) (v := some (.int 40)) (h1 := kv_wd g w) rfl (by rw [show g 65 8 = nI a from hs.1.2.1]; have z := ev_byteAt (E := E) (d := 0) (w := w) hs n50 (by omega) a (by omega); rw [hbt] at z; exact kx_ev_le (by omega) z) ?_
              refine kx_st 0 (pc' := 8) (L' := [some (.ref 65), none, none]) (st' := [.int 40]) (h' := kv_wd g w) rfl ?_
              refine kx_st 2 (pc' := 10) (L' := [some (.ref 65), some (.int 40), none]) (st' := [.int 40]) (h' := kv_wd g w) rfl ?_
              refine kx_call (z := 156) (as := [.int 40]) (rest := []) (v := some (.int (kx_b (48 ≤ (40 : Int32) ∧ (40 : Int32) ≤ 57)))) (h1 := kv_wd g w) rfl (kx_ev_le (d := 0 + 2) (by omega) (ev_isDigitM (d := 0) _)) ?_
              refine kx_st 0 (pc' := 13) (L' := [some (.ref 65), some (.int 40), none]) (st' := [.int (kx_b (48 ≤ (40 : Int32) ∧ (40 : Int32) ≤ 57))]) (h' := kv_wd g w) rfl ?_
              refine kx_be (t := 21) rfl rfl (fun (h13 : ¬ (48 ≤ (40 : Int32) ∧ (40 : Int32) ≤ 57)) => ?_) (fun (h13 : (48 ≤ (40 : Int32) ∧ (40 : Int32) ≤ 57)) => ?_)
              · refine kx_st 2 (pc' := 24) (L' := [some (.ref 65), some (.int 40), none]) (st' := [.int 33, .int 40]) (h' := kv_wd g w) rfl ?_
                refine kx_st 1 (pc' := 27) (L' := [some (.ref 65), some (.int 40), none]) (st' := []) (h' := kv_wd g w) rfl ?_
                refine kx_st 2 (pc' := 30) (L' := [some (.ref 65), some (.int 40), none]) (st' := [.int 40, .int 40]) (h' := kv_wd g w) rfl ?_
                refine kx_st 1 (pc' := 39) (L' := [some (.ref 65), some (.int 40), none]) (st' := []) (h' := kv_wd g w) rfl ?_
                refine kx_st 3 (pc' := 44) (L' := [some (.ref 65), some (.int 40), none]) (st' := [.int 5, .int (g 65 10)]) (h' := kv_wd g w) rfl ?_
                refine kx_bi (t := 52) rfl rfl (fun (h44 : ¬ g 65 10 = 5) => ?_) (fun (h44 : ¬ (¬ g 65 10 = 5)) => ?_)
                · refine kx_st 5 (pc' := 59) (L' := [some (.ref 65), some (.int 40), none]) (st' := [.int ((g 65 10) + 1), .ref 65]) (h' := kv_wd g w) rfl ?_
                  refine kx_pf (i := 140) (k := 10) (x := ((g 65 10) + 1)) rfl rfl (by decide) rfl (Nat.le_of_ble_eq_true rfl) rfl rfl rfl ?_
                  refine kx_st 5 (pc' := 69) (L' := [some (.ref 65), some (.int 40), none]) (st' := [.int (((kv_up g 65 10 ((g 65 10) + 1)) 65 8) + 1), .ref 65]) (h' := kv_wd (kv_up g 65 10 ((g 65 10) + 1)) w) rfl ?_
                  refine kx_pf (i := 113) (k := 8) (x := (((kv_up g 65 10 ((g 65 10) + 1)) 65 8) + 1)) rfl rfl (by decide) rfl (Nat.le_of_ble_eq_true rfl) rfl rfl rfl ?_
                  refine kx_st 2 (pc' := 75) (L' := [some (.ref 65), some (.int 40), none]) (st' := [.int 33, .int 40]) (h' := kv_wd (kv_up (kv_up g 65 10 ((g 65 10) + 1)) 65 8 (((kv_up g 65 10 ((g 65 10) + 1)) 65 8) + 1)) w) rfl ?_
                  refine kx_st 1 (pc' := 85) (L' := [some (.ref 65), some (.int 40), none]) (st' := []) (h' := kv_wd (kv_up (kv_up g 65 10 ((g 65 10) + 1)) 65 8 (((kv_up g 65 10 ((g 65 10) + 1)) 65 8) + 1)) w) rfl ?_
                  refine kx_st 1 (pc' := 86) (L' := [some (.ref 65), some (.int 40), none]) (st' := [.ref 65]) (h' := kv_wd (kv_up (kv_up g 65 10 ((g 65 10) + 1)) 65 8 (((kv_up g 65 10 ((g 65 10) + 1)) 65 8) + 1)) w) rfl ?_
                  obtain ⟨g3, e3, r3⟩ := hv2 E d _ w hs2
                  refine kx_call (z := 165) (as := [.ref 65]) (rest := []) (v := some (.int v)) (h1 := kv_wd g3 w) rfl (kx_ev_le (by omega) e3) ?_
                  refine kx_st 0 (pc' := 89) (L' := [some (.ref 65), some (.int 40), none]) (st' := [.int v]) (h' := kv_wd g3 w) rfl ?_
                  refine kx_st 6 (pc' := 97) (L' := [some (.ref 65), some (.int 40), some (.int v)]) (st' := [.int ((g3 65 10) - 1), .ref 65]) (h' := kv_wd g3 w) rfl ?_
                  refine kx_pf (i := 140) (k := 10) (x := ((g3 65 10) - 1)) rfl rfl (by decide) rfl (Nat.le_of_ble_eq_true rfl) rfl rfl rfl ?_
                  refine kx_st 2 (pc' := 103) (L' := [some (.ref 65), some (.int 40), some (.int v)]) (st' := [.int 33, .int 40]) (h' := kv_wd (kv_up g3 65 10 ((g3 65 10) - 1)) w) rfl ?_
                  refine kx_st 1 (pc' := 116) (L' := [some (.ref 65), some (.int 40), some (.int v)]) (st' := []) (h' := kv_wd (kv_up g3 65 10 ((g3 65 10) - 1)) w) rfl ?_
                  refine kx_st 2 (pc' := 120) (L' := [some (.ref 65), some (.int 40), some (.int v)]) (st' := [.int ((kv_up g3 65 10 ((g3 65 10) - 1)) 65 14)]) (h' := kv_wd (kv_up g3 65 10 ((g3 65 10) - 1)) w) rfl ?_
                  refine kx_bc (t := 148) rfl rfl (fun (h120 : (kv_up g3 65 10 ((g3 65 10) - 1)) 65 14 = 0) => ?_) (fun (h120 : ¬ ((kv_up g3 65 10 ((g3 65 10) - 1)) 65 14 = 0)) => ?_)
                  · exact absurd h120 (show ¬ g3 65 14 = 0 by rw [r3.2.2.2.1]; decide)
                  · refine kx_st 0 (pc' := 123) (L' := [some (.ref 65), some (.int 40), some (.int v)]) (st' := []) (h' := kv_wd (kv_up g3 65 10 ((g3 65 10) - 1)) w) rfl ?_
                    refine kx_st 3 (pc' := 128) (L' := [some (.ref 65), some (.int 40), some (.int v)]) (st' := [.int ((kv_up g3 65 10 ((g3 65 10) - 1)) 65 8), .ref 65]) (h' := kv_wd (kv_up g3 65 10 ((g3 65 10) - 1)) w) rfl ?_
                    have r5 := kx_RG_op (fun b hb => by rw [kv_up_ne hb, kv_up_ne hb]) (fun k k8 k10 => (show upd (upd (g 65) 10 _) 8 _ k = _ from (kx_upn k8).trans (kx_upn k10))) r3
                    refine kx_call (z := 155) (as := [.ref 65, .int ((kv_up g3 65 10 ((g3 65 10) - 1)) 65 8)]) (rest := []) (v := some (.int 41)) (h1 := kv_wd (kv_up g3 65 10 ((g3 65 10) - 1)) w) rfl (by rw [show (kv_up g3 65 10 ((g3 65 10) - 1)) 65 8 = nI a2 from r3.2.1]; have z := ev_byteAt (E := E) (d := 0) (w := w) (kx_RS_of hs r5) n50 (by omega) a2 (by omega); rw [hbt2] at z; exact kx_ev_le (by omega) z) ?_
                    refine kx_st 0 (pc' := 131) (L' := [some (.ref 65), some (.int 40), some (.int v)]) (st' := [.int 41]) (h' := kv_wd (kv_up g3 65 10 ((g3 65 10) - 1)) w) rfl ?_
                    refine kx_st 1 (pc' := 133) (L' := [some (.ref 65), some (.int 40), some (.int v)]) (st' := [.int 41, .int 41]) (h' := kv_wd (kv_up g3 65 10 ((g3 65 10) - 1)) w) rfl ?_
                    refine kx_st 1 (pc' := 136) (L' := [some (.ref 65), some (.int 40), some (.int v)]) (st' := []) (h' := kv_wd (kv_up g3 65 10 ((g3 65 10) - 1)) w) rfl ?_
                    refine kx_st 5 (pc' := 143) (L' := [some (.ref 65), some (.int 40), some (.int v)]) (st' := [.int (((kv_up g3 65 10 ((g3 65 10) - 1)) 65 8) + 1), .ref 65]) (h' := kv_wd (kv_up g3 65 10 ((g3 65 10) - 1)) w) rfl ?_
                    refine kx_pf (i := 113) (k := 8) (x := (((kv_up g3 65 10 ((g3 65 10) - 1)) 65 8) + 1)) rfl rfl (by decide) rfl (Nat.le_of_ble_eq_true rfl) rfl rfl rfl ?_
                    refine kx_st 1 (pc' := 147) (L' := [some (.ref 65), some (.int 40), some (.int v)]) (st' := [.int v]) (h' := kv_wd (kv_up (kv_up g3 65 10 ((g3 65 10) - 1)) 65 8 (((kv_up g3 65 10 ((g3 65 10) - 1)) 65 8) + 1)) w) rfl ?_
                    refine kx_ret (v := some (.int v)) rfl ?_
                    exact ⟨rfl, _, rfl, kx_RG_t r5 (kx_RG_up (kx_RS_of hs r5) _ (by show g3 65 8 + 1 = _; rw [r3.2.1, nI_succ]))⟩
                · exact absurd (Classical.not_not.mp h44) (by rw [hs.1.2.2.2]; exact kx_ne_nI (a := op) (b := 5) (by omega) (by omega) hop)
              · exact absurd h13 (by decide))
            exact ⟨g', kx_ev_le (by omega) he, hh⟩
        · have hnt := hbk.2 hcl
          refine ⟨false, a2, [], ⟨⟨by omega, hb.1.2⟩, fun z => by cases z⟩, ?_, ?_⟩
          · intro E d g w ln hE hs hln
            obtain ⟨g4, e4, r4⟩ := hnt E d g w ln hE hs hln
            obtain ⟨v0, hf, he, rfl, g', rfl, hh⟩ := kx_evP (E := E) (d := d + (8 * (5 - op) + 2)) (y := 49) (h := kv_wd g w) (as := [.ref 48, .int (nI op)]) (P := fun v0 h => v0 = (some (.int 0) : Option Value) ∧ ∃ g' : kv_S, h = kv_wd g' w ∧ kx_CR g g' a2 false ln []) (by decide) (Nat.le_of_ble_eq_true rfl) (by
              refine kx_st 0 (pc' := 0) (L' := [some (.ref 48), some (.int (nI op)), none, none]) (st' := []) (h' := kv_wd g w) rfl ?_
              refine kx_st 4 (pc' := 8) (L' := [some (.ref 48), some (.int (nI op)), none, none]) (st' := [.int (g 48 2), .int (g 48 3)]) (h' := kv_wd g w) rfl ?_
              refine kx_bi (t := 13) rfl rfl (fun (h8 : g 48 3 < g 48 2) => ?_) (fun (h8 : ¬ (g 48 3 < g 48 2)) => ?_)
              · refine kx_st 4 (pc' := 21) (L' := [some (.ref 48), some (.int (nI op)), none, none]) (st' := [.int (g 48 3), .ref 52]) (h' := kv_wd g w) rfl ?_
                refine kx_ia (k := a) rfl rfl (by decide) hs.2.1 (by omega) (by decide) ?_
                refine kx_st 1 (pc' := 23) (L' := [some (.ref 48), some (.int (nI op)), some (.int (g 52 a)), none]) (st' := []) (h' := kv_wd g w) rfl ?_
                rw [hs.2.2.2.1 a hlt, hx]
                refine kx_st 1 (pc' := 24) (L' := [some (.ref 48), some (.int (nI op)), some (.int 40), none]) (st' := [.int 40]) (h' := kv_wd g w) rfl ?_
                refine kx_call (z := 53) (as := [.int 40]) (rest := []) (v := some (.int (kx_b (48 ≤ (40 : Int32) ∧ (40 : Int32) ≤ 57)))) (h1 := kv_wd g w) rfl (kx_ev_le (d := 0 + 1) (by omega) (ev_isDigitX (d := 0) _)) ?_
                refine kx_st 0 (pc' := 27) (L' := [some (.ref 48), some (.int (nI op)), some (.int 40), none]) (st' := [.int (kx_b (48 ≤ (40 : Int32) ∧ (40 : Int32) ≤ 57))]) (h' := kv_wd g w) rfl ?_
                refine kx_be (t := 36) rfl rfl (fun (h27 : ¬ (48 ≤ (40 : Int32) ∧ (40 : Int32) ≤ 57)) => ?_) (fun (h27 : (48 ≤ (40 : Int32) ∧ (40 : Int32) ≤ 57)) => ?_)
                · refine kx_st 2 (pc' := 38) (L' := [some (.ref 48), some (.int (nI op)), some (.int 40), none]) (st' := [.int 40, .ref 48]) (h' := kv_wd g w) rfl ?_
                  refine kx_call (z := 54) (as := [.ref 48, .int 40]) (rest := []) (v := some (.int 0)) (h1 := kv_wd g w) rfl (kx_ev_le (d := 0 + 1) (by omega) (ev_nm_0_n (d := 0) hE hs.2.2.1 40 ⟨by decide, by decide, by decide⟩)) ?_
                  refine kx_st 0 (pc' := 41) (L' := [some (.ref 48), some (.int (nI op)), some (.int 40), none]) (st' := [.int 0]) (h' := kv_wd g w) rfl ?_
                  refine kx_st 2 (pc' := 43) (L' := [some (.ref 48), some (.int (nI op)), some (.int 40), some (.int 0)]) (st' := [.int 0]) (h' := kv_wd g w) rfl ?_
                  refine kx_st 1 (pc' := 67) (L' := [some (.ref 48), some (.int (nI op)), some (.int 40), some (.int 0)]) (st' := []) (h' := kv_wd g w) rfl ?_
                  refine kx_st 2 (pc' := 69) (L' := [some (.ref 48), some (.int (nI op)), some (.int 40), some (.int 0)]) (st' := [.int 5, .int (nI op)]) (h' := kv_wd g w) rfl ?_
                  refine kx_bi (t := 74) rfl rfl (fun (h69 : nI op < 5) => ?_) (fun (h69 : ¬ (nI op < 5)) => ?_)
                  · refine kx_st 2 (pc' := 77) (L' := [some (.ref 48), some (.int (nI op)), some (.int 40), some (.int 0)]) (st' := [.int 33, .int 40]) (h' := kv_wd g w) rfl ?_
                    refine kx_st 1 (pc' := 88) (L' := [some (.ref 48), some (.int (nI op)), some (.int 40), some (.int 0)]) (st' := []) (h' := kv_wd g w) rfl ?_
                    refine kx_st 2 (pc' := 91) (L' := [some (.ref 48), some (.int (nI op)), some (.int 40), some (.int 0)]) (st' := [.int 40, .int 40]) (h' := kv_wd g w) rfl ?_
                    refine kx_st 1 (pc' := 94) (L' := [some (.ref 48), some (.int (nI op)), some (.int 40), some (.int 0)]) (st' := []) (h' := kv_wd g w) rfl ?_
                    refine kx_st 4 (pc' := 98) (L' := [some (.ref 48), some (.int (nI op)), some (.int 40), some (.int 0)]) (st' := [.int ((nI op) + 1), .ref 48]) (h' := kv_wd g w) rfl ?_
                    refine kx_call (z := 51) (as := [.ref 48, .int ((nI op) + 1)]) (rest := []) (v := some (.int 0)) (h1 := kv_wd g4 w) rfl (by rw [← nI_succ]; exact kx_ev_le (by omega) e4) ?_
                    refine kx_st 0 (pc' := 101) (L' := [some (.ref 48), some (.int (nI op)), some (.int 40), some (.int 0)]) (st' := [.int 0]) (h' := kv_wd g4 w) rfl ?_
                    refine kx_st 1 (pc' := 108) (L' := [some (.ref 48), some (.int (nI op)), some (.int 40), some (.int 0)]) (st' := []) (h' := kv_wd g4 w) rfl ?_
                    refine kx_st 1 (pc' := 109) (L' := [some (.ref 48), some (.int (nI op)), some (.int 40), some (.int 0)]) (st' := [.int 0]) (h' := kv_wd g4 w) rfl ?_
                    refine kx_ret (v := some (.int 0)) rfl ?_
                    exact ⟨rfl, _, rfl, r4⟩
                  · exact absurd (nI_lt (a := op) (b := 5) (by omega) (by omega)) h69
                · exact absurd h27 (by decide)
              · exact absurd (by rw [hs.2.1, hs.1]; exact nI_lt (a := a) (b := n) hlt (by omega)) h8)
            exact ⟨g', kx_ev_le (by omega) he, hh⟩
          · intro A B C
            obtain ⟨v, hv1, hv2⟩ := hpm A B C
            refine ⟨0, (fun z => nomatch z), ?_⟩
            intro E d g w hs
            have hbt : kx_bt tx n a = 40 := by rw [show kx_bt tx n a = tx a from if_pos hlt]; exact hx
            have hs2 : kx_RS tx n 0 (kv_up (kv_up g 65 10 (g 65 10 + 1)) 65 8 ((kv_up g 65 10 (g 65 10 + 1)) 65 8 + 1)) (a + 1) (op + 1) A B C := ⟨⟨hs.1.1, by show g 65 8 + 1 = _; rw [hs.1.2.1, nI_succ], hs.1.2.2.1, by show g 65 10 + 1 = _; rw [hs.1.2.2.2, nI_succ]⟩, hs.2.1, hs.2.2.1, hs.2.2.2⟩
            cases ok with
            | true =>
              have hne : ¬ kx_bt tx n a2 = 41 := fun z => hcl (kx_bt_41 z)
              obtain ⟨v0, hf, he, rfl, g', rfl, hh⟩ := kx_evP (E := E) (d := d + (6 * (5 - op) + 3)) (y := 160) (h := kv_wd g w) (as := [.ref 65]) (P := fun v0 h => v0 = (some (.int 0) : Option Value) ∧ ∃ g' : kv_S, h = kv_wd g' w ∧ kx_RG g g' a2 op false) (by decide) (Nat.le_of_ble_eq_true rfl) (by
                refine kx_st 0 (pc' := 0) (L' := [some (.ref 65), none, none]) (st' := []) (h' := kv_wd g w) rfl ?_
                refine kx_st 3 (pc' := 5) (L' := [some (.ref 65), none, none]) (st' := [.int (g 65 8), .ref 65]) (h' := kv_wd g w) rfl ?_
                refine kx_call (z := 155) (as := [.ref 65, .int (g 65 8)]) (rest := []) (v := some (.int 40)) (h1 := kv_wd g w) rfl (by rw [show g 65 8 = nI a from hs.1.2.1]; have z := ev_byteAt (E := E) (d := 0) (w := w) hs n50 (by omega) a (by omega); rw [hbt] at z; exact kx_ev_le (by omega) z) ?_
                refine kx_st 0 (pc' := 8) (L' := [some (.ref 65), none, none]) (st' := [.int 40]) (h' := kv_wd g w) rfl ?_
                refine kx_st 2 (pc' := 10) (L' := [some (.ref 65), some (.int 40), none]) (st' := [.int 40]) (h' := kv_wd g w) rfl ?_
                refine kx_call (z := 156) (as := [.int 40]) (rest := []) (v := some (.int (kx_b (48 ≤ (40 : Int32) ∧ (40 : Int32) ≤ 57)))) (h1 := kv_wd g w) rfl (kx_ev_le (d := 0 + 2) (by omega) (ev_isDigitM (d := 0) _)) ?_
                refine kx_st 0 (pc' := 13) (L' := [some (.ref 65), some (.int 40), none]) (st' := [.int (kx_b (48 ≤ (40 : Int32) ∧ (40 : Int32) ≤ 57))]) (h' := kv_wd g w) rfl ?_
                refine kx_be (t := 21) rfl rfl (fun (h13 : ¬ (48 ≤ (40 : Int32) ∧ (40 : Int32) ≤ 57)) => ?_) (fun (h13 : (48 ≤ (40 : Int32) ∧ (40 : Int32) ≤ 57)) => ?_)
                · refine kx_st 2 (pc' := 24) (L' := [some (.ref 65), some (.int 40), none]) (st' := [.int 33, .int 40]) (h' := kv_wd g w) rfl ?_
                  refine kx_st 1 (pc' := 27) (L' := [some (.ref 65), some (.int 40), none]) (st' := []) (h' := kv_wd g w) rfl ?_
                  refine kx_st 2 (pc' := 30) (L' := [some (.ref 65), some (.int 40), none]) (st' := [.int 40, .int 40]) (h' := kv_wd g w) rfl ?_
                  refine kx_st 1 (pc' := 39) (L' := [some (.ref 65), some (.int 40), none]) (st' := []) (h' := kv_wd g w) rfl ?_
                  refine kx_st 3 (pc' := 44) (L' := [some (.ref 65), some (.int 40), none]) (st' := [.int 5, .int (g 65 10)]) (h' := kv_wd g w) rfl ?_
                  refine kx_bi (t := 52) rfl rfl (fun (h44 : ¬ g 65 10 = 5) => ?_) (fun (h44 : ¬ (¬ g 65 10 = 5)) => ?_)
                  · refine kx_st 5 (pc' := 59) (L' := [some (.ref 65), some (.int 40), none]) (st' := [.int ((g 65 10) + 1), .ref 65]) (h' := kv_wd g w) rfl ?_
                    refine kx_pf (i := 140) (k := 10) (x := ((g 65 10) + 1)) rfl rfl (by decide) rfl (Nat.le_of_ble_eq_true rfl) rfl rfl rfl ?_
                    refine kx_st 5 (pc' := 69) (L' := [some (.ref 65), some (.int 40), none]) (st' := [.int (((kv_up g 65 10 ((g 65 10) + 1)) 65 8) + 1), .ref 65]) (h' := kv_wd (kv_up g 65 10 ((g 65 10) + 1)) w) rfl ?_
                    refine kx_pf (i := 113) (k := 8) (x := (((kv_up g 65 10 ((g 65 10) + 1)) 65 8) + 1)) rfl rfl (by decide) rfl (Nat.le_of_ble_eq_true rfl) rfl rfl rfl ?_
                    refine kx_st 2 (pc' := 75) (L' := [some (.ref 65), some (.int 40), none]) (st' := [.int 33, .int 40]) (h' := kv_wd (kv_up (kv_up g 65 10 ((g 65 10) + 1)) 65 8 (((kv_up g 65 10 ((g 65 10) + 1)) 65 8) + 1)) w) rfl ?_
                    refine kx_st 1 (pc' := 85) (L' := [some (.ref 65), some (.int 40), none]) (st' := []) (h' := kv_wd (kv_up (kv_up g 65 10 ((g 65 10) + 1)) 65 8 (((kv_up g 65 10 ((g 65 10) + 1)) 65 8) + 1)) w) rfl ?_
                    refine kx_st 1 (pc' := 86) (L' := [some (.ref 65), some (.int 40), none]) (st' := [.ref 65]) (h' := kv_wd (kv_up (kv_up g 65 10 ((g 65 10) + 1)) 65 8 (((kv_up g 65 10 ((g 65 10) + 1)) 65 8) + 1)) w) rfl ?_
                    obtain ⟨g3, e3, r3⟩ := hv2 E d _ w hs2
                    refine kx_call (z := 165) (as := [.ref 65]) (rest := []) (v := some (.int v)) (h1 := kv_wd g3 w) rfl (kx_ev_le (by omega) e3) ?_
                    refine kx_st 0 (pc' := 89) (L' := [some (.ref 65), some (.int 40), none]) (st' := [.int v]) (h' := kv_wd g3 w) rfl ?_
                    refine kx_st 6 (pc' := 97) (L' := [some (.ref 65), some (.int 40), some (.int v)]) (st' := [.int ((g3 65 10) - 1), .ref 65]) (h' := kv_wd g3 w) rfl ?_
                    refine kx_pf (i := 140) (k := 10) (x := ((g3 65 10) - 1)) rfl rfl (by decide) rfl (Nat.le_of_ble_eq_true rfl) rfl rfl rfl ?_
                    refine kx_st 2 (pc' := 103) (L' := [some (.ref 65), some (.int 40), some (.int v)]) (st' := [.int 33, .int 40]) (h' := kv_wd (kv_up g3 65 10 ((g3 65 10) - 1)) w) rfl ?_
                    refine kx_st 1 (pc' := 116) (L' := [some (.ref 65), some (.int 40), some (.int v)]) (st' := []) (h' := kv_wd (kv_up g3 65 10 ((g3 65 10) - 1)) w) rfl ?_
                    refine kx_st 2 (pc' := 120) (L' := [some (.ref 65), some (.int 40), some (.int v)]) (st' := [.int ((kv_up g3 65 10 ((g3 65 10) - 1)) 65 14)]) (h' := kv_wd (kv_up g3 65 10 ((g3 65 10) - 1)) w) rfl ?_
                    refine kx_bc (t := 148) rfl rfl (fun (h120 : (kv_up g3 65 10 ((g3 65 10) - 1)) 65 14 = 0) => ?_) (fun (h120 : ¬ ((kv_up g3 65 10 ((g3 65 10) - 1)) 65 14 = 0)) => ?_)
                    · exact absurd h120 (show ¬ g3 65 14 = 0 by rw [r3.2.2.2.1]; decide)
                    · refine kx_st 0 (pc' := 123) (L' := [some (.ref 65), some (.int 40), some (.int v)]) (st' := []) (h' := kv_wd (kv_up g3 65 10 ((g3 65 10) - 1)) w) rfl ?_
                      refine kx_st 3 (pc' := 128) (L' := [some (.ref 65), some (.int 40), some (.int v)]) (st' := [.int ((kv_up g3 65 10 ((g3 65 10) - 1)) 65 8), .ref 65]) (h' := kv_wd (kv_up g3 65 10 ((g3 65 10) - 1)) w) rfl ?_
                      have r5 := kx_RG_op (fun b hb => by rw [kv_up_ne hb, kv_up_ne hb]) (fun k k8 k10 => (show upd (upd (g 65) 10 _) 8 _ k = _ from (kx_upn k8).trans (kx_upn k10))) r3
                      refine kx_call (z := 155) (as := [.ref 65, .int ((kv_up g3 65 10 ((g3 65 10) - 1)) 65 8)]) (rest := []) (v := some (.int (kx_bt tx n a2))) (h1 := kv_wd (kv_up g3 65 10 ((g3 65 10) - 1)) w) rfl (by rw [show (kv_up g3 65 10 ((g3 65 10) - 1)) 65 8 = nI a2 from r3.2.1]; have z := ev_byteAt (E := E) (d := 0) (w := w) (kx_RS_of hs r5) n50 (by omega) a2 (by omega); exact kx_ev_le (by omega) z) ?_
                      refine kx_st 0 (pc' := 131) (L' := [some (.ref 65), some (.int 40), some (.int v)]) (st' := [.int (kx_bt tx n a2)]) (h' := kv_wd (kv_up g3 65 10 ((g3 65 10) - 1)) w) rfl ?_
                      refine kx_st 1 (pc' := 133) (L' := [some (.ref 65), some (.int 40), some (.int v)]) (st' := [.int 41, .int (kx_bt tx n a2)]) (h' := kv_wd (kv_up g3 65 10 ((g3 65 10) - 1)) w) rfl ?_
                      refine kx_bi (t := 148) rfl rfl (fun (h133 : ¬ kx_bt tx n a2 = 41) => ?_) (fun (h133 : ¬ (¬ kx_bt tx n a2 = 41)) => ?_)
                      · refine kx_st 1 (pc' := 149) (L' := [some (.ref 65), some (.int 40), some (.int v)]) (st' := [.ref 65]) (h' := kv_wd (kv_up g3 65 10 ((g3 65 10) - 1)) w) rfl ?_
                        refine kx_call (z := 157) (as := [.ref 65]) (rest := []) (v := some (.int 0)) (h1 := kv_wd (kv_up (kv_up g3 65 10 ((g3 65 10) - 1)) 65 14 0) w) rfl (kx_ev_le (d := 0 + 1) (by omega) (ev_fails (d := 0))) ?_
                        refine kx_st 0 (pc' := 152) (L' := [some (.ref 65), some (.int 40), some (.int v)]) (st' := [.int 0]) (h' := kv_wd (kv_up (kv_up g3 65 10 ((g3 65 10) - 1)) 65 14 0) w) rfl ?_
                        refine kx_ret (v := some (.int 0)) rfl ?_
                        have r6 := kx_RG_op (fun b hb => by rw [kv_up_ne hb, kv_up_ne hb]) (fun k k8 k10 => (show upd (upd (g 65) 10 _) 8 _ k = _ from (kx_upn k8).trans (kx_upn k10))) r3
                        exact ⟨rfl, _, rfl, kx_RG_t r6 (kx_RG_f r6.2.1 r6.2.2.1)⟩
                      · exact absurd (Classical.not_not.mp h133) hne
                  · exact absurd (Classical.not_not.mp h44) (by rw [hs.1.2.2.2]; exact kx_ne_nI (a := op) (b := 5) (by omega) (by omega) hop)
                · exact absurd h13 (by decide))
              exact ⟨g', kx_ev_le (by omega) he, hh⟩
            | false =>
              obtain ⟨v0, hf, he, rfl, g', rfl, hh⟩ := kx_evP (E := E) (d := d + (6 * (5 - op) + 3)) (y := 160) (h := kv_wd g w) (as := [.ref 65]) (P := fun v0 h => v0 = (some (.int 0) : Option Value) ∧ ∃ g' : kv_S, h = kv_wd g' w ∧ kx_RG g g' a2 op false) (by decide) (Nat.le_of_ble_eq_true rfl) (by
                refine kx_st 0 (pc' := 0) (L' := [some (.ref 65), none, none]) (st' := []) (h' := kv_wd g w) rfl ?_
                refine kx_st 3 (pc' := 5) (L' := [some (.ref 65), none, none]) (st' := [.int (g 65 8), .ref 65]) (h' := kv_wd g w) rfl ?_
                refine kx_call (z := 155) (as := [.ref 65, .int (g 65 8)]) (rest := []) (v := some (.int 40)) (h1 := kv_wd g w) rfl (by rw [show g 65 8 = nI a from hs.1.2.1]; have z := ev_byteAt (E := E) (d := 0) (w := w) hs n50 (by omega) a (by omega); rw [hbt] at z; exact kx_ev_le (by omega) z) ?_
                refine kx_st 0 (pc' := 8) (L' := [some (.ref 65), none, none]) (st' := [.int 40]) (h' := kv_wd g w) rfl ?_
                refine kx_st 2 (pc' := 10) (L' := [some (.ref 65), some (.int 40), none]) (st' := [.int 40]) (h' := kv_wd g w) rfl ?_
                refine kx_call (z := 156) (as := [.int 40]) (rest := []) (v := some (.int (kx_b (48 ≤ (40 : Int32) ∧ (40 : Int32) ≤ 57)))) (h1 := kv_wd g w) rfl (kx_ev_le (d := 0 + 2) (by omega) (ev_isDigitM (d := 0) _)) ?_
                refine kx_st 0 (pc' := 13) (L' := [some (.ref 65), some (.int 40), none]) (st' := [.int (kx_b (48 ≤ (40 : Int32) ∧ (40 : Int32) ≤ 57))]) (h' := kv_wd g w) rfl ?_
                refine kx_be (t := 21) rfl rfl (fun (h13 : ¬ (48 ≤ (40 : Int32) ∧ (40 : Int32) ≤ 57)) => ?_) (fun (h13 : (48 ≤ (40 : Int32) ∧ (40 : Int32) ≤ 57)) => ?_)
                · refine kx_st 2 (pc' := 24) (L' := [some (.ref 65), some (.int 40), none]) (st' := [.int 33, .int 40]) (h' := kv_wd g w) rfl ?_
                  refine kx_st 1 (pc' := 27) (L' := [some (.ref 65), some (.int 40), none]) (st' := []) (h' := kv_wd g w) rfl ?_
                  refine kx_st 2 (pc' := 30) (L' := [some (.ref 65), some (.int 40), none]) (st' := [.int 40, .int 40]) (h' := kv_wd g w) rfl ?_
                  refine kx_st 1 (pc' := 39) (L' := [some (.ref 65), some (.int 40), none]) (st' := []) (h' := kv_wd g w) rfl ?_
                  refine kx_st 3 (pc' := 44) (L' := [some (.ref 65), some (.int 40), none]) (st' := [.int 5, .int (g 65 10)]) (h' := kv_wd g w) rfl ?_
                  refine kx_bi (t := 52) rfl rfl (fun (h44 : ¬ g 65 10 = 5) => ?_) (fun (h44 : ¬ (¬ g 65 10 = 5)) => ?_)
                  · refine kx_st 5 (pc' := 59) (L' := [some (.ref 65), some (.int 40), none]) (st' := [.int ((g 65 10) + 1), .ref 65]) (h' := kv_wd g w) rfl ?_
                    refine kx_pf (i := 140) (k := 10) (x := ((g 65 10) + 1)) rfl rfl (by decide) rfl (Nat.le_of_ble_eq_true rfl) rfl rfl rfl ?_
                    refine kx_st 5 (pc' := 69) (L' := [some (.ref 65), some (.int 40), none]) (st' := [.int (((kv_up g 65 10 ((g 65 10) + 1)) 65 8) + 1), .ref 65]) (h' := kv_wd (kv_up g 65 10 ((g 65 10) + 1)) w) rfl ?_
                    refine kx_pf (i := 113) (k := 8) (x := (((kv_up g 65 10 ((g 65 10) + 1)) 65 8) + 1)) rfl rfl (by decide) rfl (Nat.le_of_ble_eq_true rfl) rfl rfl rfl ?_
                    refine kx_st 2 (pc' := 75) (L' := [some (.ref 65), some (.int 40), none]) (st' := [.int 33, .int 40]) (h' := kv_wd (kv_up (kv_up g 65 10 ((g 65 10) + 1)) 65 8 (((kv_up g 65 10 ((g 65 10) + 1)) 65 8) + 1)) w) rfl ?_
                    refine kx_st 1 (pc' := 85) (L' := [some (.ref 65), some (.int 40), none]) (st' := []) (h' := kv_wd (kv_up (kv_up g 65 10 ((g 65 10) + 1)) 65 8 (((kv_up g 65 10 ((g 65 10) + 1)) 65 8) + 1)) w) rfl ?_
                    refine kx_st 1 (pc' := 86) (L' := [some (.ref 65), some (.int 40), none]) (st' := [.ref 65]) (h' := kv_wd (kv_up (kv_up g 65 10 ((g 65 10) + 1)) 65 8 (((kv_up g 65 10 ((g 65 10) + 1)) 65 8) + 1)) w) rfl ?_
                    obtain ⟨g3, e3, r3⟩ := hv2 E d _ w hs2
                    refine kx_call (z := 165) (as := [.ref 65]) (rest := []) (v := some (.int v)) (h1 := kv_wd g3 w) rfl (kx_ev_le (by omega) e3) ?_
                    refine kx_st 0 (pc' := 89) (L' := [some (.ref 65), some (.int 40), none]) (st' := [.int v]) (h' := kv_wd g3 w) rfl ?_
                    refine kx_st 6 (pc' := 97) (L' := [some (.ref 65), some (.int 40), some (.int v)]) (st' := [.int ((g3 65 10) - 1), .ref 65]) (h' := kv_wd g3 w) rfl ?_
                    refine kx_pf (i := 140) (k := 10) (x := ((g3 65 10) - 1)) rfl rfl (by decide) rfl (Nat.le_of_ble_eq_true rfl) rfl rfl rfl ?_
                    refine kx_st 2 (pc' := 103) (L' := [some (.ref 65), some (.int 40), some (.int v)]) (st' := [.int 33, .int 40]) (h' := kv_wd (kv_up g3 65 10 ((g3 65 10) - 1)) w) rfl ?_
                    refine kx_st 1 (pc' := 116) (L' := [some (.ref 65), some (.int 40), some (.int v)]) (st' := []) (h' := kv_wd (kv_up g3 65 10 ((g3 65 10) - 1)) w) rfl ?_
                    refine kx_st 2 (pc' := 120) (L' := [some (.ref 65), some (.int 40), some (.int v)]) (st' := [.int ((kv_up g3 65 10 ((g3 65 10) - 1)) 65 14)]) (h' := kv_wd (kv_up g3 65 10 ((g3 65 10) - 1)) w) rfl ?_
                    refine kx_bc (t := 148) rfl rfl (fun (h120 : (kv_up g3 65 10 ((g3 65 10) - 1)) 65 14 = 0) => ?_) (fun (h120 : ¬ ((kv_up g3 65 10 ((g3 65 10) - 1)) 65 14 = 0)) => ?_)
                    · refine kx_st 1 (pc' := 149) (L' := [some (.ref 65), some (.int 40), some (.int v)]) (st' := [.ref 65]) (h' := kv_wd (kv_up g3 65 10 ((g3 65 10) - 1)) w) rfl ?_
                      refine kx_call (z := 157) (as := [.ref 65]) (rest := []) (v := some (.int 0)) (h1 := kv_wd (kv_up (kv_up g3 65 10 ((g3 65 10) - 1)) 65 14 0) w) rfl (kx_ev_le (d := 0 + 1) (by omega) (ev_fails (d := 0))) ?_
                      refine kx_st 0 (pc' := 152) (L' := [some (.ref 65), some (.int 40), some (.int v)]) (st' := [.int 0]) (h' := kv_wd (kv_up (kv_up g3 65 10 ((g3 65 10) - 1)) 65 14 0) w) rfl ?_
                      refine kx_ret (v := some (.int 0)) rfl ?_
                      have r6 := kx_RG_op (fun b hb => by rw [kv_up_ne hb, kv_up_ne hb]) (fun k k8 k10 => (show upd (upd (g 65) 10 _) 8 _ k = _ from (kx_upn k8).trans (kx_upn k10))) r3
                      exact ⟨rfl, _, rfl, kx_RG_t r6 (kx_RG_f r6.2.1 r6.2.2.1)⟩
                    · exact absurd (show g3 65 14 = 0 by rw [r3.2.2.2.1]; rfl) h120
                  · exact absurd (Classical.not_not.mp h44) (by rw [hs.1.2.2.2]; exact kx_ne_nI (a := op) (b := 5) (by omega) (by omega) hop)
                · exact absurd h13 (by decide))
              exact ⟨g', kx_ev_le (by omega) he, hh⟩
    refine ⟨false, a, [], ⟨⟨Nat.le_refl _, han⟩, fun z => by cases z⟩, ?_, ?_⟩
    · intro E d g w ln hE hs hln
      obtain ⟨v0, hf, he, rfl, g', rfl, hh⟩ := kx_evP (E := E) (d := d + (8 * (5 - op) + 2)) (y := 49) (h := kv_wd g w) (as := [.ref 48, .int (nI op)]) (P := fun v0 h => v0 = (some (.int 0) : Option Value) ∧ ∃ g' : kv_S, h = kv_wd g' w ∧ kx_CR g g' a false ln []) (by decide) (Nat.le_of_ble_eq_true rfl) (by
        refine kx_st 0 (pc' := 0) (L' := [some (.ref 48), some (.int (nI op)), none, none]) (st' := []) (h' := kv_wd g w) rfl ?_
        refine kx_st 4 (pc' := 8) (L' := [some (.ref 48), some (.int (nI op)), none, none]) (st' := [.int (g 48 2), .int (g 48 3)]) (h' := kv_wd g w) rfl ?_
        refine kx_bi (t := 13) rfl rfl (fun (h8 : g 48 3 < g 48 2) => ?_) (fun (h8 : ¬ (g 48 3 < g 48 2)) => ?_)
        · refine kx_st 4 (pc' := 21) (L' := [some (.ref 48), some (.int (nI op)), none, none]) (st' := [.int (g 48 3), .ref 52]) (h' := kv_wd g w) rfl ?_
          refine kx_ia (k := a) rfl rfl (by decide) hs.2.1 (by omega) (by decide) ?_
          refine kx_st 1 (pc' := 23) (L' := [some (.ref 48), some (.int (nI op)), some (.int (g 52 a)), none]) (st' := []) (h' := kv_wd g w) rfl ?_
          rw [hs.2.2.2.1 a hlt]
          refine kx_st 1 (pc' := 24) (L' := [some (.ref 48), some (.int (nI op)), some (.int (tx a)), none]) (st' := [.int (tx a)]) (h' := kv_wd g w) rfl ?_
          refine kx_call (z := 53) (as := [.int (tx a)]) (rest := []) (v := some (.int (kx_b (48 ≤ tx a ∧ tx a ≤ 57)))) (h1 := kv_wd g w) rfl (kx_ev_le (d := 0 + 1) (by omega) (ev_isDigitX (d := 0) _)) ?_
          refine kx_st 0 (pc' := 27) (L' := [some (.ref 48), some (.int (nI op)), some (.int (tx a)), none]) (st' := [.int (kx_b (48 ≤ tx a ∧ tx a ≤ 57))]) (h' := kv_wd g w) rfl ?_
          refine kx_be (t := 36) rfl rfl (fun (h27 : ¬ (48 ≤ tx a ∧ tx a ≤ 57)) => ?_) (fun (h27 : (48 ≤ tx a ∧ tx a ≤ 57)) => ?_)
          · refine kx_st 2 (pc' := 38) (L' := [some (.ref 48), some (.int (nI op)), some (.int (tx a)), none]) (st' := [.int (tx a), .ref 48]) (h' := kv_wd g w) rfl ?_
            refine kx_call (z := 54) (as := [.ref 48, .int (tx a)]) (rest := []) (v := some (.int 0)) (h1 := kv_wd g w) rfl (kx_ev_le (d := 0 + 1) (by omega) (ev_nm_0_n (d := 0) hE hs.2.2.1 (tx a) ⟨hn1, hn2, hn3⟩)) ?_
            refine kx_st 0 (pc' := 41) (L' := [some (.ref 48), some (.int (nI op)), some (.int (tx a)), none]) (st' := [.int 0]) (h' := kv_wd g w) rfl ?_
            refine kx_st 2 (pc' := 43) (L' := [some (.ref 48), some (.int (nI op)), some (.int (tx a)), some (.int 0)]) (st' := [.int 0]) (h' := kv_wd g w) rfl ?_
            refine kx_st 1 (pc' := 67) (L' := [some (.ref 48), some (.int (nI op)), some (.int (tx a)), some (.int 0)]) (st' := []) (h' := kv_wd g w) rfl ?_
            refine kx_st 2 (pc' := 69) (L' := [some (.ref 48), some (.int (nI op)), some (.int (tx a)), some (.int 0)]) (st' := [.int 5, .int (nI op)]) (h' := kv_wd g w) rfl ?_
            refine kx_bi (t := 74) rfl rfl (fun (h69 : nI op < 5) => ?_) (fun (h69 : ¬ (nI op < 5)) => ?_)
            · refine kx_st 2 (pc' := 77) (L' := [some (.ref 48), some (.int (nI op)), some (.int (tx a)), some (.int 0)]) (st' := [.int 33, .int (tx a)]) (h' := kv_wd g w) rfl ?_
              refine kx_bi (t := 88) rfl rfl (fun (h77 : ¬ tx a = 33) => ?_) (fun (h77 : ¬ (¬ tx a = 33)) => ?_)
              · refine kx_st 2 (pc' := 91) (L' := [some (.ref 48), some (.int (nI op)), some (.int (tx a)), some (.int 0)]) (st' := [.int 40, .int (tx a)]) (h' := kv_wd g w) rfl ?_
                refine kx_bi (t := 108) rfl rfl (fun (h91 : ¬ tx a = 40) => ?_) (fun (h91 : ¬ (¬ tx a = 40)) => ?_)
                · refine kx_st 1 (pc' := 109) (L' := [some (.ref 48), some (.int (nI op)), some (.int (tx a)), some (.int 0)]) (st' := [.int 0]) (h' := kv_wd g w) rfl ?_
                  refine kx_ret (v := some (.int 0)) rfl ?_
                  exact ⟨rfl, _, rfl, kx_CR_0 hs false⟩
                · exact absurd (Classical.not_not.mp h91) h40
              · exact absurd (Classical.not_not.mp h77) h33
            · refine kx_st 0 (pc' := 72) (L' := [some (.ref 48), some (.int (nI op)), some (.int (tx a)), some (.int 0)]) (st' := []) (h' := kv_wd g w) rfl ?_
              refine kx_st 1 (pc' := 73) (L' := [some (.ref 48), some (.int (nI op)), some (.int (tx a)), some (.int 0)]) (st' := [.int 0]) (h' := kv_wd g w) rfl ?_
              refine kx_ret (v := some (.int 0)) rfl ?_
              exact ⟨rfl, _, rfl, kx_CR_0 hs false⟩
          · exact absurd h27 hdg
        · exact absurd (by rw [hs.2.1, hs.1]; exact nI_lt (a := a) (b := n) hlt (by omega)) h8)
      exact ⟨g', kx_ev_le (by omega) he, hh⟩
    · intro A B C
      refine ⟨0, (fun z => nomatch z), ?_⟩
      intro E d g w hs
      have hbt : kx_bt tx n a = tx a := if_pos hlt
      obtain ⟨v0, hf, he, rfl, g', rfl, hh⟩ := kx_evP (E := E) (d := d + (6 * (5 - op) + 3)) (y := 160) (h := kv_wd g w) (as := [.ref 65]) (P := fun v0 h => v0 = (some (.int 0) : Option Value) ∧ ∃ g' : kv_S, h = kv_wd g' w ∧ kx_RG g g' a op false) (by decide) (Nat.le_of_ble_eq_true rfl) (by
        refine kx_st 0 (pc' := 0) (L' := [some (.ref 65), none, none]) (st' := []) (h' := kv_wd g w) rfl ?_
        refine kx_st 3 (pc' := 5) (L' := [some (.ref 65), none, none]) (st' := [.int (g 65 8), .ref 65]) (h' := kv_wd g w) rfl ?_
        refine kx_call (z := 155) (as := [.ref 65, .int (g 65 8)]) (rest := []) (v := some (.int (tx a))) (h1 := kv_wd g w) rfl (by rw [show g 65 8 = nI a from hs.1.2.1]; have z := ev_byteAt (E := E) (d := 0) (w := w) hs n50 (by omega) a (by omega); rw [hbt] at z; exact kx_ev_le (by omega) z) ?_
        refine kx_st 0 (pc' := 8) (L' := [some (.ref 65), none, none]) (st' := [.int (tx a)]) (h' := kv_wd g w) rfl ?_
        refine kx_st 2 (pc' := 10) (L' := [some (.ref 65), some (.int (tx a)), none]) (st' := [.int (tx a)]) (h' := kv_wd g w) rfl ?_
        refine kx_call (z := 156) (as := [.int (tx a)]) (rest := []) (v := some (.int (kx_b (48 ≤ tx a ∧ tx a ≤ 57)))) (h1 := kv_wd g w) rfl (kx_ev_le (d := 0 + 2) (by omega) (ev_isDigitM (d := 0) _)) ?_
        refine kx_st 0 (pc' := 13) (L' := [some (.ref 65), some (.int (tx a)), none]) (st' := [.int (kx_b (48 ≤ tx a ∧ tx a ≤ 57))]) (h' := kv_wd g w) rfl ?_
        refine kx_be (t := 21) rfl rfl (fun (h13 : ¬ (48 ≤ tx a ∧ tx a ≤ 57)) => ?_) (fun (h13 : (48 ≤ tx a ∧ tx a ≤ 57)) => ?_)
        · refine kx_st 2 (pc' := 24) (L' := [some (.ref 65), some (.int (tx a)), none]) (st' := [.int 33, .int (tx a)]) (h' := kv_wd g w) rfl ?_
          refine kx_bi (t := 39) rfl rfl (fun (h24 : tx a = 33) => ?_) (fun (h24 : ¬ (tx a = 33)) => ?_)
          · exact absurd h24 h33
          · refine kx_st 0 (pc' := 27) (L' := [some (.ref 65), some (.int (tx a)), none]) (st' := []) (h' := kv_wd g w) rfl ?_
            refine kx_st 2 (pc' := 30) (L' := [some (.ref 65), some (.int (tx a)), none]) (st' := [.int 40, .int (tx a)]) (h' := kv_wd g w) rfl ?_
            refine kx_bi (t := 39) rfl rfl (fun (h30 : tx a = 40) => ?_) (fun (h30 : ¬ (tx a = 40)) => ?_)
            · exact absurd h30 h40
            · refine kx_st 0 (pc' := 33) (L' := [some (.ref 65), some (.int (tx a)), none]) (st' := []) (h' := kv_wd g w) rfl ?_
              refine kx_st 2 (pc' := 35) (L' := [some (.ref 65), some (.int (tx a)), none]) (st' := [.int (tx a), .ref 65]) (h' := kv_wd g w) rfl ?_
              refine kx_call (z := 159) (as := [.ref 65, .int (tx a)]) (rest := []) (v := some (.int 0)) (h1 := kv_wd (kv_up g 65 14 0) w) rfl (kx_ev_le (d := 0 + 2) (by omega) (ev_named_0_n (d := 0) hs (tx a) ⟨hn1, hn2, hn3⟩)) ?_
              refine kx_st 0 (pc' := 38) (L' := [some (.ref 65), some (.int (tx a)), none]) (st' := [.int 0]) (h' := kv_wd (kv_up g 65 14 0) w) rfl ?_
              refine kx_ret (v := some (.int 0)) rfl ?_
              exact ⟨rfl, _, rfl, kx_RG_f hs.1.2.1 hs.1.2.2.2⟩
        · exact absurd h13 hdg)
      exact ⟨g', kx_ev_le (by omega) he, hh⟩
  · refine ⟨false, a, [], ⟨⟨Nat.le_refl _, han⟩, fun z => by cases z⟩, ?_, ?_⟩
    · intro E d g w ln hE hs hln
      obtain ⟨v0, hf, he, rfl, g', rfl, hh⟩ := kx_evP (E := E) (d := d + (8 * (5 - op) + 2)) (y := 49) (h := kv_wd g w) (as := [.ref 48, .int (nI op)]) (P := fun v0 h => v0 = (some (.int 0) : Option Value) ∧ ∃ g' : kv_S, h = kv_wd g' w ∧ kx_CR g g' a false ln []) (by decide) (Nat.le_of_ble_eq_true rfl) (by
        refine kx_st 0 (pc' := 0) (L' := [some (.ref 48), some (.int (nI op)), none, none]) (st' := []) (h' := kv_wd g w) rfl ?_
        refine kx_st 4 (pc' := 8) (L' := [some (.ref 48), some (.int (nI op)), none, none]) (st' := [.int (g 48 2), .int (g 48 3)]) (h' := kv_wd g w) rfl ?_
        refine kx_bi (t := 13) rfl rfl (fun (h8 : g 48 3 < g 48 2) => ?_) (fun (h8 : ¬ (g 48 3 < g 48 2)) => ?_)
        · exact absurd h8 (by rw [hs.2.1, hs.1]; exact nI_nlt (by omega) (by omega))
        · refine kx_st 0 (pc' := 11) (L' := [some (.ref 48), some (.int (nI op)), none, none]) (st' := []) (h' := kv_wd g w) rfl ?_
          refine kx_st 1 (pc' := 12) (L' := [some (.ref 48), some (.int (nI op)), none, none]) (st' := [.int 0]) (h' := kv_wd g w) rfl ?_
          refine kx_ret (v := some (.int 0)) rfl ?_
          exact ⟨rfl, _, rfl, kx_CR_0 hs false⟩)
      exact ⟨g', kx_ev_le (by omega) he, hh⟩
    · intro A B C
      refine ⟨0, (fun z => nomatch z), ?_⟩
      intro E d g w hs
      have hbt : kx_bt tx n a = -1 := if_neg hlt
      obtain ⟨v0, hf, he, rfl, g', rfl, hh⟩ := kx_evP (E := E) (d := d + (6 * (5 - op) + 3)) (y := 160) (h := kv_wd g w) (as := [.ref 65]) (P := fun v0 h => v0 = (some (.int 0) : Option Value) ∧ ∃ g' : kv_S, h = kv_wd g' w ∧ kx_RG g g' a op false) (by decide) (Nat.le_of_ble_eq_true rfl) (by
        refine kx_st 0 (pc' := 0) (L' := [some (.ref 65), none, none]) (st' := []) (h' := kv_wd g w) rfl ?_
        refine kx_st 3 (pc' := 5) (L' := [some (.ref 65), none, none]) (st' := [.int (g 65 8), .ref 65]) (h' := kv_wd g w) rfl ?_
        refine kx_call (z := 155) (as := [.ref 65, .int (g 65 8)]) (rest := []) (v := some (.int (-1))) (h1 := kv_wd g w) rfl (by rw [show g 65 8 = nI a from hs.1.2.1]; have z := ev_byteAt (E := E) (d := 0) (w := w) hs n50 (by omega) a (by omega); rw [hbt] at z; exact kx_ev_le (by omega) z) ?_
        refine kx_st 0 (pc' := 8) (L' := [some (.ref 65), none, none]) (st' := [.int (-1)]) (h' := kv_wd g w) rfl ?_
        refine kx_st 2 (pc' := 10) (L' := [some (.ref 65), some (.int (-1)), none]) (st' := [.int (-1)]) (h' := kv_wd g w) rfl ?_
        refine kx_call (z := 156) (as := [.int (-1)]) (rest := []) (v := some (.int (kx_b (48 ≤ ((-1) : Int32) ∧ ((-1) : Int32) ≤ 57)))) (h1 := kv_wd g w) rfl (kx_ev_le (d := 0 + 2) (by omega) (ev_isDigitM (d := 0) _)) ?_
        refine kx_st 0 (pc' := 13) (L' := [some (.ref 65), some (.int (-1)), none]) (st' := [.int (kx_b (48 ≤ ((-1) : Int32) ∧ ((-1) : Int32) ≤ 57))]) (h' := kv_wd g w) rfl ?_
        refine kx_be (t := 21) rfl rfl (fun (h13 : ¬ (48 ≤ ((-1) : Int32) ∧ ((-1) : Int32) ≤ 57)) => ?_) (fun (h13 : (48 ≤ ((-1) : Int32) ∧ ((-1) : Int32) ≤ 57)) => ?_)
        · refine kx_st 2 (pc' := 24) (L' := [some (.ref 65), some (.int (-1)), none]) (st' := [.int 33, .int (-1)]) (h' := kv_wd g w) rfl ?_
          refine kx_st 1 (pc' := 27) (L' := [some (.ref 65), some (.int (-1)), none]) (st' := []) (h' := kv_wd g w) rfl ?_
          refine kx_st 2 (pc' := 30) (L' := [some (.ref 65), some (.int (-1)), none]) (st' := [.int 40, .int (-1)]) (h' := kv_wd g w) rfl ?_
          refine kx_st 1 (pc' := 33) (L' := [some (.ref 65), some (.int (-1)), none]) (st' := []) (h' := kv_wd g w) rfl ?_
          refine kx_st 2 (pc' := 35) (L' := [some (.ref 65), some (.int (-1)), none]) (st' := [.int (-1), .ref 65]) (h' := kv_wd g w) rfl ?_
          refine kx_call (z := 159) (as := [.ref 65, .int (-1)]) (rest := []) (v := some (.int 0)) (h1 := kv_wd (kv_up g 65 14 0) w) rfl (kx_ev_le (d := 0 + 2) (by omega) (ev_named_0_n (d := 0) hs (-1) ⟨by decide, by decide, by decide⟩)) ?_
          refine kx_st 0 (pc' := 38) (L' := [some (.ref 65), some (.int (-1)), none]) (st' := [.int 0]) (h' := kv_wd (kv_up g 65 14 0) w) rfl ?_
          refine kx_ret (v := some (.int 0)) rfl ?_
          exact ⟨rfl, _, rfl, kx_RG_f hs.1.2.1 hs.1.2.2.2⟩
        · exact absurd h13 (by decide))
      exact ⟨g', kx_ev_le (by omega) he, hh⟩
set_option maxRecDepth 100000 in
theorem kx_pq_1 {tx : Nat → Int32} {n op a : Nat} (n50 : n ≤ 50) (htx : ∀ j, j < n → ∃ b, b ≤ 255 ∧ tx j = nI b) (han : a ≤ n) (h5 : op ≤ 5) (hq : op < 5 → ∀ a, a ≤ n → kx_PQ tx n 1 (op + 1) a) (hw : op < 5 → ∀ a, a ≤ n → kx_PL tx n 1 0 9 165 (op + 1) a) : kx_PQ tx n 1 op a := by
  by_cases hlt : a < n
  · by_cases hdg : 48 ≤ tx a ∧ tx a ≤ 57
    · have hdb := kx_dg_b (tx := tx) (n := n) 4 a 0 han (by decide) (by omega)
      have hd1 : a + 1 ≤ (kx_dg tx n 4 a 0).1 := by
        rw [show kx_dg tx n 4 a 0 = kx_dg tx n 3 (a + 1) (10 * 0 + ((tx a).toNatClampNeg - 48)) from if_pos ⟨hlt, hdg⟩]
        have hb9 : (tx a).toNatClampNeg - 48 ≤ 9 := by
          obtain ⟨k, hk, hk2⟩ := kx_nIof (n := 57) (Int32.le_trans (show (0 : Int32) ≤ 48 by decide) hdg.1) hdg.2 (by omega)
          rw [hk2, nI_clamp (by omega)]; omega
        exact (kx_dg_b (tx := tx) (n := n) 3 (a + 1) _ (by omega) (by show _ < 10 ^ 1; omega) (by omega)).1
      have hv3 : -3 ≤ nI (kx_dg tx n 4 a 0).2 := Int32.le_trans (show (-3 : Int32) ≤ 0 by decide) (nI_pos' (by omega))
      have hnz : ∀ z : Int32, z < 0 → ¬ nI (kx_dg tx n 4 a 0).2 = z := fun z hz e => absurd (by rw [e]; exact hz) (nI_pos (by omega))
      refine ⟨true, (kx_dg tx n 4 a 0).1, [nI (kx_dg tx n 4 a 0).2], ⟨⟨hdb.1, hdb.2.1⟩, fun _ => ⟨by omega, by simp; omega, by show 2 * ((if -3 ≤ nI (kx_dg tx n 4 a 0).2 then 1 else 0) + 0) ≤ _; rw [if_pos hv3]; omega⟩⟩, ?_, ?_⟩
      · intro E d g w ln hE hs hln
        obtain ⟨v0, hf, he, rfl, g', rfl, hh⟩ := kx_evP (E := E) (d := d + (8 * (5 - op) + 2)) (y := 49) (h := kv_wd g w) (as := [.ref 48, .int (nI op)]) (P := fun v0 h => v0 = (some (.int 1) : Option Value) ∧ ∃ g' : kv_S, h = kv_wd g' w ∧ kx_CR g g' ((kx_dg tx n 4 a 0).1) true ln [nI (kx_dg tx n 4 a 0).2]) (by decide) (Nat.le_of_ble_eq_true rfl) (by
          refine kx_st 0 (pc' := 0) (L' := [some (.ref 48), some (.int (nI op)), none, none]) (st' := []) (h' := kv_wd g w) rfl ?_
          refine kx_st 4 (pc' := 8) (L' := [some (.ref 48), some (.int (nI op)), none, none]) (st' := [.int (g 48 2), .int (g 48 3)]) (h' := kv_wd g w) rfl ?_
          refine kx_bi (t := 13) rfl rfl (fun (h8 : g 48 3 < g 48 2) => ?_) (fun (h8 : ¬ (g 48 3 < g 48 2)) => ?_)
          · refine kx_st 4 (pc' := 21) (L' := [some (.ref 48), some (.int (nI op)), none, none]) (st' := [.int (g 48 3), .ref 52]) (h' := kv_wd g w) rfl ?_
            refine kx_ia (k := a) rfl rfl (by decide) hs.2.1 (by omega) (by decide) ?_
            refine kx_st 1 (pc' := 23) (L' := [some (.ref 48), some (.int (nI op)), some (.int (g 52 a)), none]) (st' := []) (h' := kv_wd g w) rfl ?_
            rw [hs.2.2.2.1 a hlt]
            refine kx_st 1 (pc' := 24) (L' := [some (.ref 48), some (.int (nI op)), some (.int (tx a)), none]) (st' := [.int (tx a)]) (h' := kv_wd g w) rfl ?_
            refine kx_call (z := 53) (as := [.int (tx a)]) (rest := []) (v := some (.int (kx_b (48 ≤ tx a ∧ tx a ≤ 57)))) (h1 := kv_wd g w) rfl (kx_ev_le (d := 0 + 1) (by omega) (ev_isDigitX (d := 0) _)) ?_
            refine kx_st 0 (pc' := 27) (L' := [some (.ref 48), some (.int (nI op)), some (.int (tx a)), none]) (st' := [.int (kx_b (48 ≤ tx a ∧ tx a ≤ 57))]) (h' := kv_wd g w) rfl ?_
            refine kx_be (t := 36) rfl rfl (fun (h27 : ¬ (48 ≤ tx a ∧ tx a ≤ 57)) => ?_) (fun (h27 : (48 ≤ tx a ∧ tx a ≤ 57)) => ?_)
            · exact absurd hdg h27
            · refine kx_st 0 (pc' := 30) (L' := [some (.ref 48), some (.int (nI op)), some (.int (tx a)), none]) (st' := []) (h' := kv_wd g w) rfl ?_
              refine kx_st 1 (pc' := 31) (L' := [some (.ref 48), some (.int (nI op)), some (.int (tx a)), none]) (st' := [.ref 48]) (h' := kv_wd g w) rfl ?_
              obtain ⟨g2, e2, r2⟩ := ev_readNumber (E := E) (d := 0) (w := w) n50 han hs (by omega)
              refine kx_call (z := 52) (as := [.ref 48]) (rest := []) (v := none) (h1 := kv_wd g2 w) rfl (kx_ev_le (by omega) e2) ?_
              refine kx_st 0 (pc' := 34) (L' := [some (.ref 48), some (.int (nI op)), some (.int (tx a)), none]) (st' := []) (h' := kv_wd g2 w) rfl ?_
              refine kx_st 1 (pc' := 35) (L' := [some (.ref 48), some (.int (nI op)), some (.int (tx a)), none]) (st' := [.int 1]) (h' := kv_wd g2 w) rfl ?_
              refine kx_ret (v := some (.int 1)) rfl ?_
              exact ⟨rfl, _, rfl, r2⟩
          · exact absurd (by rw [hs.2.1, hs.1]; exact nI_lt (a := a) (b := n) hlt (by omega)) h8)
        exact ⟨g', kx_ev_le (by omega) he, hh⟩
      · intro A B C
        refine ⟨nI (kx_dg tx n 4 a 0).2, fun _ st => ?_, ?_⟩
        · show kx_e1 A B C (nI (kx_dg tx n 4 a 0).2) st = _
          unfold kx_e1 kx_vl
          rw [if_pos hv3, if_neg (hnz _ (by decide)), if_neg (hnz _ (by decide)), if_neg (hnz _ (by decide))]
        · intro E d g w hs
          have hbt : kx_bt tx n a = tx a := if_pos hlt
          obtain ⟨v0, hf, he, rfl, g', rfl, hh⟩ := kx_evP (E := E) (d := d + (6 * (5 - op) + 3)) (y := 160) (h := kv_wd g w) (as := [.ref 65]) (P := fun v0 h => v0 = (some (.int (nI (kx_dg tx n 4 a 0).2)) : Option Value) ∧ ∃ g' : kv_S, h = kv_wd g' w ∧ kx_RG g g' ((kx_dg tx n 4 a 0).1) op true) (by decide) (Nat.le_of_ble_eq_true rfl) (by
            refine kx_st 0 (pc' := 0) (L' := [some (.ref 65), none, none]) (st' := []) (h' := kv_wd g w) rfl ?_
            refine kx_st 3 (pc' := 5) (L' := [some (.ref 65), none, none]) (st' := [.int (g 65 8), .ref 65]) (h' := kv_wd g w) rfl ?_
            refine kx_call (z := 155) (as := [.ref 65, .int (g 65 8)]) (rest := []) (v := some (.int (tx a))) (h1 := kv_wd g w) rfl (by rw [show g 65 8 = nI a from hs.1.2.1]; have z := ev_byteAt (E := E) (d := 0) (w := w) hs n50 (by omega) a (by omega); rw [hbt] at z; exact kx_ev_le (by omega) z) ?_
            refine kx_st 0 (pc' := 8) (L' := [some (.ref 65), none, none]) (st' := [.int (tx a)]) (h' := kv_wd g w) rfl ?_
            refine kx_st 2 (pc' := 10) (L' := [some (.ref 65), some (.int (tx a)), none]) (st' := [.int (tx a)]) (h' := kv_wd g w) rfl ?_
            refine kx_call (z := 156) (as := [.int (tx a)]) (rest := []) (v := some (.int (kx_b (48 ≤ tx a ∧ tx a ≤ 57)))) (h1 := kv_wd g w) rfl (kx_ev_le (d := 0 + 2) (by omega) (ev_isDigitM (d := 0) _)) ?_
            refine kx_st 0 (pc' := 13) (L' := [some (.ref 65), some (.int (tx a)), none]) (st' := [.int (kx_b (48 ≤ tx a ∧ tx a ≤ 57))]) (h' := kv_wd g w) rfl ?_
            refine kx_be (t := 21) rfl rfl (fun (h13 : ¬ (48 ≤ tx a ∧ tx a ≤ 57)) => ?_) (fun (h13 : (48 ≤ tx a ∧ tx a ≤ 57)) => ?_)
            · exact absurd hdg h13
            · refine kx_st 0 (pc' := 16) (L' := [some (.ref 65), some (.int (tx a)), none]) (st' := []) (h' := kv_wd g w) rfl ?_
              refine kx_st 1 (pc' := 17) (L' := [some (.ref 65), some (.int (tx a)), none]) (st' := [.ref 65]) (h' := kv_wd g w) rfl ?_
              obtain ⟨g2, e2, r2⟩ := ev_number (E := E) (d := 0) (w := w) n50 (by omega) han hs
              refine kx_call (z := 158) (as := [.ref 65]) (rest := []) (v := some (.int (nI (kx_dg tx n 4 a 0).2))) (h1 := kv_wd g2 w) rfl (kx_ev_le (by omega) e2) ?_
              refine kx_st 0 (pc' := 20) (L' := [some (.ref 65), some (.int (tx a)), none]) (st' := [.int (nI (kx_dg tx n 4 a 0).2)]) (h' := kv_wd g2 w) rfl ?_
              refine kx_ret (v := some (.int (nI (kx_dg tx n 4 a 0).2))) rfl ?_
              exact ⟨rfl, _, rfl, r2⟩)
          exact ⟨g', kx_ev_le (by omega) he, hh⟩
    by_cases hn1 : tx a = 100
    · have hx := hn1
      refine ⟨true, a + 1, [-1], ⟨⟨by omega, by omega⟩, fun _ => ⟨by omega, by simp, by show 2 * (1 + 0) ≤ _; omega⟩⟩, ?_, ?_⟩
      · intro E d g w ln hE hs hln
        obtain ⟨v0, hf, he, rfl, g', rfl, hh⟩ := kx_evP (E := E) (d := d + (8 * (5 - op) + 2)) (y := 49) (h := kv_wd g w) (as := [.ref 48, .int (nI op)]) (P := fun v0 h => v0 = (some (.int 1) : Option Value) ∧ ∃ g' : kv_S, h = kv_wd g' w ∧ kx_CR g g' (a + 1) true ln [-1]) (by decide) (Nat.le_of_ble_eq_true rfl) (by
          refine kx_st 0 (pc' := 0) (L' := [some (.ref 48), some (.int (nI op)), none, none]) (st' := []) (h' := kv_wd g w) rfl ?_
          refine kx_st 4 (pc' := 8) (L' := [some (.ref 48), some (.int (nI op)), none, none]) (st' := [.int (g 48 2), .int (g 48 3)]) (h' := kv_wd g w) rfl ?_
          refine kx_bi (t := 13) rfl rfl (fun (h8 : g 48 3 < g 48 2) => ?_) (fun (h8 : ¬ (g 48 3 < g 48 2)) => ?_)
          · refine kx_st 4 (pc' := 21) (L' := [some (.ref 48), some (.int (nI op)), none, none]) (st' := [.int (g 48 3), .ref 52]) (h' := kv_wd g w) rfl ?_
            refine kx_ia (k := a) rfl rfl (by decide) hs.2.1 (by omega) (by decide) ?_
            refine kx_st 1 (pc' := 23) (L' := [some (.ref 48), some (.int (nI op)), some (.int (g 52 a)), none]) (st' := []) (h' := kv_wd g w) rfl ?_
            rw [hs.2.2.2.1 a hlt, hx]
            refine kx_st 1 (pc' := 24) (L' := [some (.ref 48), some (.int (nI op)), some (.int 100), none]) (st' := [.int 100]) (h' := kv_wd g w) rfl ?_
            refine kx_call (z := 53) (as := [.int 100]) (rest := []) (v := some (.int (kx_b (48 ≤ (100 : Int32) ∧ (100 : Int32) ≤ 57)))) (h1 := kv_wd g w) rfl (kx_ev_le (d := 0 + 1) (by omega) (ev_isDigitX (d := 0) _)) ?_
            refine kx_st 0 (pc' := 27) (L' := [some (.ref 48), some (.int (nI op)), some (.int 100), none]) (st' := [.int (kx_b (48 ≤ (100 : Int32) ∧ (100 : Int32) ≤ 57))]) (h' := kv_wd g w) rfl ?_
            refine kx_be (t := 36) rfl rfl (fun (h27 : ¬ (48 ≤ (100 : Int32) ∧ (100 : Int32) ≤ 57)) => ?_) (fun (h27 : (48 ≤ (100 : Int32) ∧ (100 : Int32) ≤ 57)) => ?_)
            · refine kx_st 2 (pc' := 38) (L' := [some (.ref 48), some (.int (nI op)), some (.int 100), none]) (st' := [.int 100, .ref 48]) (h' := kv_wd g w) rfl ?_
              refine kx_call (z := 54) (as := [.ref 48, .int 100]) (rest := []) (v := some (.int 1)) (h1 := kv_wd g w) rfl (kx_ev_le (d := 0 + 1) (by omega) (ev_nm_1_100 (d := 0) hE hs.2.2.1)) ?_
              refine kx_st 0 (pc' := 41) (L' := [some (.ref 48), some (.int (nI op)), some (.int 100), none]) (st' := [.int 1]) (h' := kv_wd g w) rfl ?_
              refine kx_st 2 (pc' := 43) (L' := [some (.ref 48), some (.int (nI op)), some (.int 100), some (.int 1)]) (st' := [.int 1]) (h' := kv_wd g w) rfl ?_
              refine kx_st 1 (pc' := 46) (L' := [some (.ref 48), some (.int (nI op)), some (.int 100), some (.int 1)]) (st' := []) (h' := kv_wd g w) rfl ?_
              refine kx_st 5 (pc' := 53) (L' := [some (.ref 48), some (.int (nI op)), some (.int 100), some (.int 1)]) (st' := [.int ((g 48 3) + 1), .ref 48]) (h' := kv_wd g w) rfl ?_
              refine kx_pf (i := 28) (k := 3) (x := ((g 48 3) + 1)) rfl rfl (by decide) rfl (Nat.le_of_ble_eq_true rfl) rfl rfl rfl ?_
              refine kx_st 4 (pc' := 62) (L' := [some (.ref 48), some (.int (nI op)), some (.int 100), some (.int 1)]) (st' := [.int (-1), .ref 49]) (h' := kv_wd (kv_up g 48 3 ((g 48 3) + 1)) w) rfl ?_
              have r1 := (kx_CR_up hs (g 48 3 + 1) (by rw [hs.2.1, nI_succ]))
              refine kx_call (z := 38) (as := [.ref 49, .int (-1)]) (rest := []) (v := none) (h1 := kv_wd (kv_up (kv_up (kv_up g 48 3 ((g 48 3) + 1)) 50 ln (-1)) 49 2 (nI (ln + 1))) w) rfl (kx_ev_le (d := 0 + 1) (by omega) (ev_add (d := 0) ln (kx_CS_u hs r1).2.2.2.2 (by omega) (-1))) ?_
              refine kx_st 0 (pc' := 65) (L' := [some (.ref 48), some (.int (nI op)), some (.int 100), some (.int 1)]) (st' := []) (h' := kv_wd (kv_up (kv_up (kv_up g 48 3 ((g 48 3) + 1)) 50 ln (-1)) 49 2 (nI (ln + 1))) w) rfl ?_
              refine kx_st 1 (pc' := 66) (L' := [some (.ref 48), some (.int (nI op)), some (.int 100), some (.int 1)]) (st' := [.int 1]) (h' := kv_wd (kv_up (kv_up (kv_up g 48 3 ((g 48 3) + 1)) 50 ln (-1)) 49 2 (nI (ln + 1))) w) rfl ?_
              refine kx_ret (v := some (.int 1)) rfl ?_
              exact ⟨rfl, _, rfl, kx_CR_u r1 (kx_CR_add (kx_CS_u hs r1) (-1))⟩
            · exact absurd h27 (by decide)
          · exact absurd (by rw [hs.2.1, hs.1]; exact nI_lt (a := a) (b := n) hlt (by omega)) h8)
        exact ⟨g', kx_ev_le (by omega) he, hh⟩
      · intro A B C
        refine ⟨A, fun _ st => rfl, ?_⟩
        intro E d g w hs
        have hbt : kx_bt tx n a = 100 := by rw [show kx_bt tx n a = tx a from if_pos hlt]; exact hx
        obtain ⟨v0, hf, he, rfl, g', rfl, hh⟩ := kx_evP (E := E) (d := d + (6 * (5 - op) + 3)) (y := 160) (h := kv_wd g w) (as := [.ref 65]) (P := fun v0 h => v0 = (some (.int A) : Option Value) ∧ ∃ g' : kv_S, h = kv_wd g' w ∧ kx_RG g g' (a + 1) op true) (by decide) (Nat.le_of_ble_eq_true rfl) (by
          refine kx_st 0 (pc' := 0) (L' := [some (.ref 65), none, none]) (st' := []) (h' := kv_wd g w) rfl ?_
          refine kx_st 3 (pc' := 5) (L' := [some (.ref 65), none, none]) (st' := [.int (g 65 8), .ref 65]) (h' := kv_wd g w) rfl ?_
          refine kx_call (z := 155) (as := [.ref 65, .int (g 65 8)]) (rest := []) (v := some (.int 100)) (h1 := kv_wd g w) rfl (by rw [show g 65 8 = nI a from hs.1.2.1]; have z := ev_byteAt (E := E) (d := 0) (w := w) hs n50 (by omega) a (by omega); rw [hbt] at z; exact kx_ev_le (by omega) z) ?_
          refine kx_st 0 (pc' := 8) (L' := [some (.ref 65), none, none]) (st' := [.int 100]) (h' := kv_wd g w) rfl ?_
          refine kx_st 2 (pc' := 10) (L' := [some (.ref 65), some (.int 100), none]) (st' := [.int 100]) (h' := kv_wd g w) rfl ?_
          refine kx_call (z := 156) (as := [.int 100]) (rest := []) (v := some (.int (kx_b (48 ≤ (100 : Int32) ∧ (100 : Int32) ≤ 57)))) (h1 := kv_wd g w) rfl (kx_ev_le (d := 0 + 2) (by omega) (ev_isDigitM (d := 0) _)) ?_
          refine kx_st 0 (pc' := 13) (L' := [some (.ref 65), some (.int 100), none]) (st' := [.int (kx_b (48 ≤ (100 : Int32) ∧ (100 : Int32) ≤ 57))]) (h' := kv_wd g w) rfl ?_
          refine kx_be (t := 21) rfl rfl (fun (h13 : ¬ (48 ≤ (100 : Int32) ∧ (100 : Int32) ≤ 57)) => ?_) (fun (h13 : (48 ≤ (100 : Int32) ∧ (100 : Int32) ≤ 57)) => ?_)
          · refine kx_st 2 (pc' := 24) (L' := [some (.ref 65), some (.int 100), none]) (st' := [.int 33, .int 100]) (h' := kv_wd g w) rfl ?_
            refine kx_st 1 (pc' := 27) (L' := [some (.ref 65), some (.int 100), none]) (st' := []) (h' := kv_wd g w) rfl ?_
            refine kx_st 2 (pc' := 30) (L' := [some (.ref 65), some (.int 100), none]) (st' := [.int 40, .int 100]) (h' := kv_wd g w) rfl ?_
            refine kx_st 1 (pc' := 33) (L' := [some (.ref 65), some (.int 100), none]) (st' := []) (h' := kv_wd g w) rfl ?_
            refine kx_st 2 (pc' := 35) (L' := [some (.ref 65), some (.int 100), none]) (st' := [.int 100, .ref 65]) (h' := kv_wd g w) rfl ?_
            refine kx_call (z := 159) (as := [.ref 65, .int 100]) (rest := []) (v := some (.int A)) (h1 := kv_wd (kv_up g 65 8 (g 65 8 + 1)) w) rfl (kx_ev_le (d := 0 + 2) (by omega) (ev_named_1_100 (d := 0) hs)) ?_
            refine kx_st 0 (pc' := 38) (L' := [some (.ref 65), some (.int 100), none]) (st' := [.int A]) (h' := kv_wd (kv_up g 65 8 (g 65 8 + 1)) w) rfl ?_
            refine kx_ret (v := some (.int A)) rfl ?_
            exact ⟨rfl, _, rfl, kx_RG_up hs _ (by rw [hs.1.2.1, nI_succ])⟩
          · exact absurd h13 (by decide))
        exact ⟨g', kx_ev_le (by omega) he, hh⟩
    by_cases hn2 : tx a = 109
    · have hx := hn2
      refine ⟨true, a + 1, [-2], ⟨⟨by omega, by omega⟩, fun _ => ⟨by omega, by simp, by show 2 * (1 + 0) ≤ _; omega⟩⟩, ?_, ?_⟩
      · intro E d g w ln hE hs hln
        obtain ⟨v0, hf, he, rfl, g', rfl, hh⟩ := kx_evP (E := E) (d := d + (8 * (5 - op) + 2)) (y := 49) (h := kv_wd g w) (as := [.ref 48, .int (nI op)]) (P := fun v0 h => v0 = (some (.int 1) : Option Value) ∧ ∃ g' : kv_S, h = kv_wd g' w ∧ kx_CR g g' (a + 1) true ln [-2]) (by decide) (Nat.le_of_ble_eq_true rfl) (by
          refine kx_st 0 (pc' := 0) (L' := [some (.ref 48), some (.int (nI op)), none, none]) (st' := []) (h' := kv_wd g w) rfl ?_
          refine kx_st 4 (pc' := 8) (L' := [some (.ref 48), some (.int (nI op)), none, none]) (st' := [.int (g 48 2), .int (g 48 3)]) (h' := kv_wd g w) rfl ?_
          refine kx_bi (t := 13) rfl rfl (fun (h8 : g 48 3 < g 48 2) => ?_) (fun (h8 : ¬ (g 48 3 < g 48 2)) => ?_)
          · refine kx_st 4 (pc' := 21) (L' := [some (.ref 48), some (.int (nI op)), none, none]) (st' := [.int (g 48 3), .ref 52]) (h' := kv_wd g w) rfl ?_
            refine kx_ia (k := a) rfl rfl (by decide) hs.2.1 (by omega) (by decide) ?_
            refine kx_st 1 (pc' := 23) (L' := [some (.ref 48), some (.int (nI op)), some (.int (g 52 a)), none]) (st' := []) (h' := kv_wd g w) rfl ?_
            rw [hs.2.2.2.1 a hlt, hx]
            refine kx_st 1 (pc' := 24) (L' := [some (.ref 48), some (.int (nI op)), some (.int 109), none]) (st' := [.int 109]) (h' := kv_wd g w) rfl ?_
            refine kx_call (z := 53) (as := [.int 109]) (rest := []) (v := some (.int (kx_b (48 ≤ (109 : Int32) ∧ (109 : Int32) ≤ 57)))) (h1 := kv_wd g w) rfl (kx_ev_le (d := 0 + 1) (by omega) (ev_isDigitX (d := 0) _)) ?_
            refine kx_st 0 (pc' := 27) (L' := [some (.ref 48), some (.int (nI op)), some (.int 109), none]) (st' := [.int (kx_b (48 ≤ (109 : Int32) ∧ (109 : Int32) ≤ 57))]) (h' := kv_wd g w) rfl ?_
            refine kx_be (t := 36) rfl rfl (fun (h27 : ¬ (48 ≤ (109 : Int32) ∧ (109 : Int32) ≤ 57)) => ?_) (fun (h27 : (48 ≤ (109 : Int32) ∧ (109 : Int32) ≤ 57)) => ?_)
            · refine kx_st 2 (pc' := 38) (L' := [some (.ref 48), some (.int (nI op)), some (.int 109), none]) (st' := [.int 109, .ref 48]) (h' := kv_wd g w) rfl ?_
              refine kx_call (z := 54) (as := [.ref 48, .int 109]) (rest := []) (v := some (.int 2)) (h1 := kv_wd g w) rfl (kx_ev_le (d := 0 + 1) (by omega) (ev_nm_1_109 (d := 0) hE hs.2.2.1)) ?_
              refine kx_st 0 (pc' := 41) (L' := [some (.ref 48), some (.int (nI op)), some (.int 109), none]) (st' := [.int 2]) (h' := kv_wd g w) rfl ?_
              refine kx_st 2 (pc' := 43) (L' := [some (.ref 48), some (.int (nI op)), some (.int 109), some (.int 2)]) (st' := [.int 2]) (h' := kv_wd g w) rfl ?_
              refine kx_st 1 (pc' := 46) (L' := [some (.ref 48), some (.int (nI op)), some (.int 109), some (.int 2)]) (st' := []) (h' := kv_wd g w) rfl ?_
              refine kx_st 5 (pc' := 53) (L' := [some (.ref 48), some (.int (nI op)), some (.int 109), some (.int 2)]) (st' := [.int ((g 48 3) + 1), .ref 48]) (h' := kv_wd g w) rfl ?_
              refine kx_pf (i := 28) (k := 3) (x := ((g 48 3) + 1)) rfl rfl (by decide) rfl (Nat.le_of_ble_eq_true rfl) rfl rfl rfl ?_
              refine kx_st 4 (pc' := 62) (L' := [some (.ref 48), some (.int (nI op)), some (.int 109), some (.int 2)]) (st' := [.int (-2), .ref 49]) (h' := kv_wd (kv_up g 48 3 ((g 48 3) + 1)) w) rfl ?_
              have r1 := (kx_CR_up hs (g 48 3 + 1) (by rw [hs.2.1, nI_succ]))
              refine kx_call (z := 38) (as := [.ref 49, .int (-2)]) (rest := []) (v := none) (h1 := kv_wd (kv_up (kv_up (kv_up g 48 3 ((g 48 3) + 1)) 50 ln (-2)) 49 2 (nI (ln + 1))) w) rfl (kx_ev_le (d := 0 + 1) (by omega) (ev_add (d := 0) ln (kx_CS_u hs r1).2.2.2.2 (by omega) (-2))) ?_
              refine kx_st 0 (pc' := 65) (L' := [some (.ref 48), some (.int (nI op)), some (.int 109), some (.int 2)]) (st' := []) (h' := kv_wd (kv_up (kv_up (kv_up g 48 3 ((g 48 3) + 1)) 50 ln (-2)) 49 2 (nI (ln + 1))) w) rfl ?_
              refine kx_st 1 (pc' := 66) (L' := [some (.ref 48), some (.int (nI op)), some (.int 109), some (.int 2)]) (st' := [.int 1]) (h' := kv_wd (kv_up (kv_up (kv_up g 48 3 ((g 48 3) + 1)) 50 ln (-2)) 49 2 (nI (ln + 1))) w) rfl ?_
              refine kx_ret (v := some (.int 1)) rfl ?_
              exact ⟨rfl, _, rfl, kx_CR_u r1 (kx_CR_add (kx_CS_u hs r1) (-2))⟩
            · exact absurd h27 (by decide)
          · exact absurd (by rw [hs.2.1, hs.1]; exact nI_lt (a := a) (b := n) hlt (by omega)) h8)
        exact ⟨g', kx_ev_le (by omega) he, hh⟩
      · intro A B C
        refine ⟨B, fun _ st => rfl, ?_⟩
        intro E d g w hs
        have hbt : kx_bt tx n a = 109 := by rw [show kx_bt tx n a = tx a from if_pos hlt]; exact hx
        obtain ⟨v0, hf, he, rfl, g', rfl, hh⟩ := kx_evP (E := E) (d := d + (6 * (5 - op) + 3)) (y := 160) (h := kv_wd g w) (as := [.ref 65]) (P := fun v0 h => v0 = (some (.int B) : Option Value) ∧ ∃ g' : kv_S, h = kv_wd g' w ∧ kx_RG g g' (a + 1) op true) (by decide) (Nat.le_of_ble_eq_true rfl) (by
          refine kx_st 0 (pc' := 0) (L' := [some (.ref 65), none, none]) (st' := []) (h' := kv_wd g w) rfl ?_
          refine kx_st 3 (pc' := 5) (L' := [some (.ref 65), none, none]) (st' := [.int (g 65 8), .ref 65]) (h' := kv_wd g w) rfl ?_
          refine kx_call (z := 155) (as := [.ref 65, .int (g 65 8)]) (rest := []) (v := some (.int 109)) (h1 := kv_wd g w) rfl (by rw [show g 65 8 = nI a from hs.1.2.1]; have z := ev_byteAt (E := E) (d := 0) (w := w) hs n50 (by omega) a (by omega); rw [hbt] at z; exact kx_ev_le (by omega) z) ?_
          refine kx_st 0 (pc' := 8) (L' := [some (.ref 65), none, none]) (st' := [.int 109]) (h' := kv_wd g w) rfl ?_
          refine kx_st 2 (pc' := 10) (L' := [some (.ref 65), some (.int 109), none]) (st' := [.int 109]) (h' := kv_wd g w) rfl ?_
          refine kx_call (z := 156) (as := [.int 109]) (rest := []) (v := some (.int (kx_b (48 ≤ (109 : Int32) ∧ (109 : Int32) ≤ 57)))) (h1 := kv_wd g w) rfl (kx_ev_le (d := 0 + 2) (by omega) (ev_isDigitM (d := 0) _)) ?_
          refine kx_st 0 (pc' := 13) (L' := [some (.ref 65), some (.int 109), none]) (st' := [.int (kx_b (48 ≤ (109 : Int32) ∧ (109 : Int32) ≤ 57))]) (h' := kv_wd g w) rfl ?_
          refine kx_be (t := 21) rfl rfl (fun (h13 : ¬ (48 ≤ (109 : Int32) ∧ (109 : Int32) ≤ 57)) => ?_) (fun (h13 : (48 ≤ (109 : Int32) ∧ (109 : Int32) ≤ 57)) => ?_)
          · refine kx_st 2 (pc' := 24) (L' := [some (.ref 65), some (.int 109), none]) (st' := [.int 33, .int 109]) (h' := kv_wd g w) rfl ?_
            refine kx_st 1 (pc' := 27) (L' := [some (.ref 65), some (.int 109), none]) (st' := []) (h' := kv_wd g w) rfl ?_
            refine kx_st 2 (pc' := 30) (L' := [some (.ref 65), some (.int 109), none]) (st' := [.int 40, .int 109]) (h' := kv_wd g w) rfl ?_
            refine kx_st 1 (pc' := 33) (L' := [some (.ref 65), some (.int 109), none]) (st' := []) (h' := kv_wd g w) rfl ?_
            refine kx_st 2 (pc' := 35) (L' := [some (.ref 65), some (.int 109), none]) (st' := [.int 109, .ref 65]) (h' := kv_wd g w) rfl ?_
            refine kx_call (z := 159) (as := [.ref 65, .int 109]) (rest := []) (v := some (.int B)) (h1 := kv_wd (kv_up g 65 8 (g 65 8 + 1)) w) rfl (kx_ev_le (d := 0 + 2) (by omega) (ev_named_1_109 (d := 0) hs)) ?_
            refine kx_st 0 (pc' := 38) (L' := [some (.ref 65), some (.int 109), none]) (st' := [.int B]) (h' := kv_wd (kv_up g 65 8 (g 65 8 + 1)) w) rfl ?_
            refine kx_ret (v := some (.int B)) rfl ?_
            exact ⟨rfl, _, rfl, kx_RG_up hs _ (by rw [hs.1.2.1, nI_succ])⟩
          · exact absurd h13 (by decide))
        exact ⟨g', kx_ev_le (by omega) he, hh⟩
    by_cases hn3 : tx a = 108
    · have hx := hn3
      refine ⟨true, a + 1, [-3], ⟨⟨by omega, by omega⟩, fun _ => ⟨by omega, by simp, by show 2 * (1 + 0) ≤ _; omega⟩⟩, ?_, ?_⟩
      · intro E d g w ln hE hs hln
        obtain ⟨v0, hf, he, rfl, g', rfl, hh⟩ := kx_evP (E := E) (d := d + (8 * (5 - op) + 2)) (y := 49) (h := kv_wd g w) (as := [.ref 48, .int (nI op)]) (P := fun v0 h => v0 = (some (.int 1) : Option Value) ∧ ∃ g' : kv_S, h = kv_wd g' w ∧ kx_CR g g' (a + 1) true ln [-3]) (by decide) (Nat.le_of_ble_eq_true rfl) (by
          refine kx_st 0 (pc' := 0) (L' := [some (.ref 48), some (.int (nI op)), none, none]) (st' := []) (h' := kv_wd g w) rfl ?_
          refine kx_st 4 (pc' := 8) (L' := [some (.ref 48), some (.int (nI op)), none, none]) (st' := [.int (g 48 2), .int (g 48 3)]) (h' := kv_wd g w) rfl ?_
          refine kx_bi (t := 13) rfl rfl (fun (h8 : g 48 3 < g 48 2) => ?_) (fun (h8 : ¬ (g 48 3 < g 48 2)) => ?_)
          · refine kx_st 4 (pc' := 21) (L' := [some (.ref 48), some (.int (nI op)), none, none]) (st' := [.int (g 48 3), .ref 52]) (h' := kv_wd g w) rfl ?_
            refine kx_ia (k := a) rfl rfl (by decide) hs.2.1 (by omega) (by decide) ?_
            refine kx_st 1 (pc' := 23) (L' := [some (.ref 48), some (.int (nI op)), some (.int (g 52 a)), none]) (st' := []) (h' := kv_wd g w) rfl ?_
            rw [hs.2.2.2.1 a hlt, hx]
            refine kx_st 1 (pc' := 24) (L' := [some (.ref 48), some (.int (nI op)), some (.int 108), none]) (st' := [.int 108]) (h' := kv_wd g w) rfl ?_
            refine kx_call (z := 53) (as := [.int 108]) (rest := []) (v := some (.int (kx_b (48 ≤ (108 : Int32) ∧ (108 : Int32) ≤ 57)))) (h1 := kv_wd g w) rfl (kx_ev_le (d := 0 + 1) (by omega) (ev_isDigitX (d := 0) _)) ?_
            refine kx_st 0 (pc' := 27) (L' := [some (.ref 48), some (.int (nI op)), some (.int 108), none]) (st' := [.int (kx_b (48 ≤ (108 : Int32) ∧ (108 : Int32) ≤ 57))]) (h' := kv_wd g w) rfl ?_
            refine kx_be (t := 36) rfl rfl (fun (h27 : ¬ (48 ≤ (108 : Int32) ∧ (108 : Int32) ≤ 57)) => ?_) (fun (h27 : (48 ≤ (108 : Int32) ∧ (108 : Int32) ≤ 57)) => ?_)
            · refine kx_st 2 (pc' := 38) (L' := [some (.ref 48), some (.int (nI op)), some (.int 108), none]) (st' := [.int 108, .ref 48]) (h' := kv_wd g w) rfl ?_
              refine kx_call (z := 54) (as := [.ref 48, .int 108]) (rest := []) (v := some (.int 3)) (h1 := kv_wd g w) rfl (kx_ev_le (d := 0 + 1) (by omega) (ev_nm_1_108 (d := 0) hE hs.2.2.1)) ?_
              refine kx_st 0 (pc' := 41) (L' := [some (.ref 48), some (.int (nI op)), some (.int 108), none]) (st' := [.int 3]) (h' := kv_wd g w) rfl ?_
              refine kx_st 2 (pc' := 43) (L' := [some (.ref 48), some (.int (nI op)), some (.int 108), some (.int 3)]) (st' := [.int 3]) (h' := kv_wd g w) rfl ?_
              refine kx_st 1 (pc' := 46) (L' := [some (.ref 48), some (.int (nI op)), some (.int 108), some (.int 3)]) (st' := []) (h' := kv_wd g w) rfl ?_
              refine kx_st 5 (pc' := 53) (L' := [some (.ref 48), some (.int (nI op)), some (.int 108), some (.int 3)]) (st' := [.int ((g 48 3) + 1), .ref 48]) (h' := kv_wd g w) rfl ?_
              refine kx_pf (i := 28) (k := 3) (x := ((g 48 3) + 1)) rfl rfl (by decide) rfl (Nat.le_of_ble_eq_true rfl) rfl rfl rfl ?_
              refine kx_st 4 (pc' := 62) (L' := [some (.ref 48), some (.int (nI op)), some (.int 108), some (.int 3)]) (st' := [.int (-3), .ref 49]) (h' := kv_wd (kv_up g 48 3 ((g 48 3) + 1)) w) rfl ?_
              have r1 := (kx_CR_up hs (g 48 3 + 1) (by rw [hs.2.1, nI_succ]))
              refine kx_call (z := 38) (as := [.ref 49, .int (-3)]) (rest := []) (v := none) (h1 := kv_wd (kv_up (kv_up (kv_up g 48 3 ((g 48 3) + 1)) 50 ln (-3)) 49 2 (nI (ln + 1))) w) rfl (kx_ev_le (d := 0 + 1) (by omega) (ev_add (d := 0) ln (kx_CS_u hs r1).2.2.2.2 (by omega) (-3))) ?_
              refine kx_st 0 (pc' := 65) (L' := [some (.ref 48), some (.int (nI op)), some (.int 108), some (.int 3)]) (st' := []) (h' := kv_wd (kv_up (kv_up (kv_up g 48 3 ((g 48 3) + 1)) 50 ln (-3)) 49 2 (nI (ln + 1))) w) rfl ?_
              refine kx_st 1 (pc' := 66) (L' := [some (.ref 48), some (.int (nI op)), some (.int 108), some (.int 3)]) (st' := [.int 1]) (h' := kv_wd (kv_up (kv_up (kv_up g 48 3 ((g 48 3) + 1)) 50 ln (-3)) 49 2 (nI (ln + 1))) w) rfl ?_
              refine kx_ret (v := some (.int 1)) rfl ?_
              exact ⟨rfl, _, rfl, kx_CR_u r1 (kx_CR_add (kx_CS_u hs r1) (-3))⟩
            · exact absurd h27 (by decide)
          · exact absurd (by rw [hs.2.1, hs.1]; exact nI_lt (a := a) (b := n) hlt (by omega)) h8)
        exact ⟨g', kx_ev_le (by omega) he, hh⟩
      · intro A B C
        refine ⟨C, fun _ st => rfl, ?_⟩
        intro E d g w hs
        have hbt : kx_bt tx n a = 108 := by rw [show kx_bt tx n a = tx a from if_pos hlt]; exact hx
        obtain ⟨v0, hf, he, rfl, g', rfl, hh⟩ := kx_evP (E := E) (d := d + (6 * (5 - op) + 3)) (y := 160) (h := kv_wd g w) (as := [.ref 65]) (P := fun v0 h => v0 = (some (.int C) : Option Value) ∧ ∃ g' : kv_S, h = kv_wd g' w ∧ kx_RG g g' (a + 1) op true) (by decide) (Nat.le_of_ble_eq_true rfl) (by
          refine kx_st 0 (pc' := 0) (L' := [some (.ref 65), none, none]) (st' := []) (h' := kv_wd g w) rfl ?_
          refine kx_st 3 (pc' := 5) (L' := [some (.ref 65), none, none]) (st' := [.int (g 65 8), .ref 65]) (h' := kv_wd g w) rfl ?_
          refine kx_call (z := 155) (as := [.ref 65, .int (g 65 8)]) (rest := []) (v := some (.int 108)) (h1 := kv_wd g w) rfl (by rw [show g 65 8 = nI a from hs.1.2.1]; have z := ev_byteAt (E := E) (d := 0) (w := w) hs n50 (by omega) a (by omega); rw [hbt] at z; exact kx_ev_le (by omega) z) ?_
          refine kx_st 0 (pc' := 8) (L' := [some (.ref 65), none, none]) (st' := [.int 108]) (h' := kv_wd g w) rfl ?_
          refine kx_st 2 (pc' := 10) (L' := [some (.ref 65), some (.int 108), none]) (st' := [.int 108]) (h' := kv_wd g w) rfl ?_
          refine kx_call (z := 156) (as := [.int 108]) (rest := []) (v := some (.int (kx_b (48 ≤ (108 : Int32) ∧ (108 : Int32) ≤ 57)))) (h1 := kv_wd g w) rfl (kx_ev_le (d := 0 + 2) (by omega) (ev_isDigitM (d := 0) _)) ?_
          refine kx_st 0 (pc' := 13) (L' := [some (.ref 65), some (.int 108), none]) (st' := [.int (kx_b (48 ≤ (108 : Int32) ∧ (108 : Int32) ≤ 57))]) (h' := kv_wd g w) rfl ?_
          refine kx_be (t := 21) rfl rfl (fun (h13 : ¬ (48 ≤ (108 : Int32) ∧ (108 : Int32) ≤ 57)) => ?_) (fun (h13 : (48 ≤ (108 : Int32) ∧ (108 : Int32) ≤ 57)) => ?_)
          · refine kx_st 2 (pc' := 24) (L' := [some (.ref 65), some (.int 108), none]) (st' := [.int 33, .int 108]) (h' := kv_wd g w) rfl ?_
            refine kx_st 1 (pc' := 27) (L' := [some (.ref 65), some (.int 108), none]) (st' := []) (h' := kv_wd g w) rfl ?_
            refine kx_st 2 (pc' := 30) (L' := [some (.ref 65), some (.int 108), none]) (st' := [.int 40, .int 108]) (h' := kv_wd g w) rfl ?_
            refine kx_st 1 (pc' := 33) (L' := [some (.ref 65), some (.int 108), none]) (st' := []) (h' := kv_wd g w) rfl ?_
            refine kx_st 2 (pc' := 35) (L' := [some (.ref 65), some (.int 108), none]) (st' := [.int 108, .ref 65]) (h' := kv_wd g w) rfl ?_
            refine kx_call (z := 159) (as := [.ref 65, .int 108]) (rest := []) (v := some (.int C)) (h1 := kv_wd (kv_up g 65 8 (g 65 8 + 1)) w) rfl (kx_ev_le (d := 0 + 2) (by omega) (ev_named_1_108 (d := 0) hs)) ?_
            refine kx_st 0 (pc' := 38) (L' := [some (.ref 65), some (.int 108), none]) (st' := [.int C]) (h' := kv_wd (kv_up g 65 8 (g 65 8 + 1)) w) rfl ?_
            refine kx_ret (v := some (.int C)) rfl ?_
            exact ⟨rfl, _, rfl, kx_RG_up hs _ (by rw [hs.1.2.1, nI_succ])⟩
          · exact absurd h13 (by decide))
        exact ⟨g', kx_ev_le (by omega) he, hh⟩
    by_cases h33 : tx a = 33
    · have hx := h33
      by_cases hop : op = 5
      · refine ⟨false, a, [], ⟨⟨Nat.le_refl _, han⟩, fun z => by cases z⟩, ?_, ?_⟩
        · intro E d g w ln hE hs hln
          obtain ⟨v0, hf, he, rfl, g', rfl, hh⟩ := kx_evP (E := E) (d := d + (8 * (5 - op) + 2)) (y := 49) (h := kv_wd g w) (as := [.ref 48, .int (nI op)]) (P := fun v0 h => v0 = (some (.int 0) : Option Value) ∧ ∃ g' : kv_S, h = kv_wd g' w ∧ kx_CR g g' a false ln []) (by decide) (Nat.le_of_ble_eq_true rfl) (by
            refine kx_st 0 (pc' := 0) (L' := [some (.ref 48), some (.int (nI op)), none, none]) (st' := []) (h' := kv_wd g w) rfl ?_
            refine kx_st 4 (pc' := 8) (L' := [some (.ref 48), some (.int (nI op)), none, none]) (st' := [.int (g 48 2), .int (g 48 3)]) (h' := kv_wd g w) rfl ?_
            refine kx_bi (t := 13) rfl rfl (fun (h8 : g 48 3 < g 48 2) => ?_) (fun (h8 : ¬ (g 48 3 < g 48 2)) => ?_)
            · refine kx_st 4 (pc' := 21) (L' := [some (.ref 48), some (.int (nI op)), none, none]) (st' := [.int (g 48 3), .ref 52]) (h' := kv_wd g w) rfl ?_
              refine kx_ia (k := a) rfl rfl (by decide) hs.2.1 (by omega) (by decide) ?_
              refine kx_st 1 (pc' := 23) (L' := [some (.ref 48), some (.int (nI op)), some (.int (g 52 a)), none]) (st' := []) (h' := kv_wd g w) rfl ?_
              rw [hs.2.2.2.1 a hlt, hx]
              refine kx_st 1 (pc' := 24) (L' := [some (.ref 48), some (.int (nI op)), some (.int 33), none]) (st' := [.int 33]) (h' := kv_wd g w) rfl ?_
              refine kx_call (z := 53) (as := [.int 33]) (rest := []) (v := some (.int (kx_b (48 ≤ (33 : Int32) ∧ (33 : Int32) ≤ 57)))) (h1 := kv_wd g w) rfl (kx_ev_le (d := 0 + 1) (by omega) (ev_isDigitX (d := 0) _)) ?_
              refine kx_st 0 (pc' := 27) (L' := [some (.ref 48), some (.int (nI op)), some (.int 33), none]) (st' := [.int (kx_b (48 ≤ (33 : Int32) ∧ (33 : Int32) ≤ 57))]) (h' := kv_wd g w) rfl ?_
              refine kx_be (t := 36) rfl rfl (fun (h27 : ¬ (48 ≤ (33 : Int32) ∧ (33 : Int32) ≤ 57)) => ?_) (fun (h27 : (48 ≤ (33 : Int32) ∧ (33 : Int32) ≤ 57)) => ?_)
              · refine kx_st 2 (pc' := 38) (L' := [some (.ref 48), some (.int (nI op)), some (.int 33), none]) (st' := [.int 33, .ref 48]) (h' := kv_wd g w) rfl ?_
                refine kx_call (z := 54) (as := [.ref 48, .int 33]) (rest := []) (v := some (.int 0)) (h1 := kv_wd g w) rfl (kx_ev_le (d := 0 + 1) (by omega) (ev_nm_1_n (d := 0) hE hs.2.2.1 33 ⟨by decide, by decide, by decide⟩)) ?_
                refine kx_st 0 (pc' := 41) (L' := [some (.ref 48), some (.int (nI op)), some (.int 33), none]) (st' := [.int 0]) (h' := kv_wd g w) rfl ?_
                refine kx_st 2 (pc' := 43) (L' := [some (.ref 48), some (.int (nI op)), some (.int 33), some (.int 0)]) (st' := [.int 0]) (h' := kv_wd g w) rfl ?_
                refine kx_st 1 (pc' := 67) (L' := [some (.ref 48), some (.int (nI op)), some (.int 33), some (.int 0)]) (st' := []) (h' := kv_wd g w) rfl ?_
                refine kx_st 2 (pc' := 69) (L' := [some (.ref 48), some (.int (nI op)), some (.int 33), some (.int 0)]) (st' := [.int 5, .int (nI op)]) (h' := kv_wd g w) rfl ?_
                refine kx_bi (t := 74) rfl rfl (fun (h69 : nI op < 5) => ?_) (fun (h69 : ¬ (nI op < 5)) => ?_)
                · exact absurd h69 (by rw [hop]; decide)
                · refine kx_st 0 (pc' := 72) (L' := [some (.ref 48), some (.int (nI op)), some (.int 33), some (.int 0)]) (st' := []) (h' := kv_wd g w) rfl ?_
                  refine kx_st 1 (pc' := 73) (L' := [some (.ref 48), some (.int (nI op)), some (.int 33), some (.int 0)]) (st' := [.int 0]) (h' := kv_wd g w) rfl ?_
                  refine kx_ret (v := some (.int 0)) rfl ?_
                  exact ⟨rfl, _, rfl, kx_CR_0 hs false⟩
              · exact absurd h27 (by decide)
            · exact absurd (by rw [hs.2.1, hs.1]; exact nI_lt (a := a) (b := n) hlt (by omega)) h8)
          exact ⟨g', kx_ev_le (by omega) he, hh⟩
        · intro A B C
          refine ⟨0, (fun z => nomatch z), ?_⟩
          intro E d g w hs
          have hbt : kx_bt tx n a = 33 := by rw [show kx_bt tx n a = tx a from if_pos hlt]; exact hx
          obtain ⟨v0, hf, he, rfl, g', rfl, hh⟩ := kx_evP (E := E) (d := d + (6 * (5 - op) + 3)) (y := 160) (h := kv_wd g w) (as := [.ref 65]) (P := fun v0 h => v0 = (some (.int 0) : Option Value) ∧ ∃ g' : kv_S, h = kv_wd g' w ∧ kx_RG g g' a op false) (by decide) (Nat.le_of_ble_eq_true rfl) (by
            refine kx_st 0 (pc' := 0) (L' := [some (.ref 65), none, none]) (st' := []) (h' := kv_wd g w) rfl ?_
            refine kx_st 3 (pc' := 5) (L' := [some (.ref 65), none, none]) (st' := [.int (g 65 8), .ref 65]) (h' := kv_wd g w) rfl ?_
            refine kx_call (z := 155) (as := [.ref 65, .int (g 65 8)]) (rest := []) (v := some (.int 33)) (h1 := kv_wd g w) rfl (by rw [show g 65 8 = nI a from hs.1.2.1]; have z := ev_byteAt (E := E) (d := 0) (w := w) hs n50 (by omega) a (by omega); rw [hbt] at z; exact kx_ev_le (by omega) z) ?_
            refine kx_st 0 (pc' := 8) (L' := [some (.ref 65), none, none]) (st' := [.int 33]) (h' := kv_wd g w) rfl ?_
            refine kx_st 2 (pc' := 10) (L' := [some (.ref 65), some (.int 33), none]) (st' := [.int 33]) (h' := kv_wd g w) rfl ?_
            refine kx_call (z := 156) (as := [.int 33]) (rest := []) (v := some (.int (kx_b (48 ≤ (33 : Int32) ∧ (33 : Int32) ≤ 57)))) (h1 := kv_wd g w) rfl (kx_ev_le (d := 0 + 2) (by omega) (ev_isDigitM (d := 0) _)) ?_
            refine kx_st 0 (pc' := 13) (L' := [some (.ref 65), some (.int 33), none]) (st' := [.int (kx_b (48 ≤ (33 : Int32) ∧ (33 : Int32) ≤ 57))]) (h' := kv_wd g w) rfl ?_
            refine kx_be (t := 21) rfl rfl (fun (h13 : ¬ (48 ≤ (33 : Int32) ∧ (33 : Int32) ≤ 57)) => ?_) (fun (h13 : (48 ≤ (33 : Int32) ∧ (33 : Int32) ≤ 57)) => ?_)
            · refine kx_st 2 (pc' := 24) (L' := [some (.ref 65), some (.int 33), none]) (st' := [.int 33, .int 33]) (h' := kv_wd g w) rfl ?_
              refine kx_st 1 (pc' := 39) (L' := [some (.ref 65), some (.int 33), none]) (st' := []) (h' := kv_wd g w) rfl ?_
              refine kx_st 3 (pc' := 44) (L' := [some (.ref 65), some (.int 33), none]) (st' := [.int 5, .int (g 65 10)]) (h' := kv_wd g w) rfl ?_
              refine kx_bi (t := 52) rfl rfl (fun (h44 : ¬ g 65 10 = 5) => ?_) (fun (h44 : ¬ (¬ g 65 10 = 5)) => ?_)
              · exact absurd (by rw [hs.1.2.2.2, hop]; rfl) h44
              · refine kx_st 0 (pc' := 47) (L' := [some (.ref 65), some (.int 33), none]) (st' := []) (h' := kv_wd g w) rfl ?_
                refine kx_st 1 (pc' := 48) (L' := [some (.ref 65), some (.int 33), none]) (st' := [.ref 65]) (h' := kv_wd g w) rfl ?_
                refine kx_call (z := 157) (as := [.ref 65]) (rest := []) (v := some (.int 0)) (h1 := kv_wd (kv_up g 65 14 0) w) rfl (kx_ev_le (d := 0 + 1) (by omega) (ev_fails (d := 0))) ?_
                refine kx_st 0 (pc' := 51) (L' := [some (.ref 65), some (.int 33), none]) (st' := [.int 0]) (h' := kv_wd (kv_up g 65 14 0) w) rfl ?_
                refine kx_ret (v := some (.int 0)) rfl ?_
                exact ⟨rfl, _, rfl, kx_RG_f hs.1.2.1 hs.1.2.2.2⟩
            · exact absurd h13 (by decide))
          exact ⟨g', kx_ev_le (by omega) he, hh⟩
      · obtain ⟨ok, a2, cd, hb, hpx, hpm⟩ := hq (by omega) (a + 1) (by omega)
        have hnt := kx_not (by omega) hlt hb hpx
        refine ⟨ok, a2, cd ++ [-33], ⟨⟨by have := hb.1; omega, hb.1.2⟩, fun z => ?_⟩, ?_, ?_⟩
        · have q1 := hb.2 z
          rw [List.length_append, kx_nv_app, show kx_nv [-33] = 0 from rfl, List.length_singleton]
          omega
        · intro E d g w ln hE hs hln
          obtain ⟨g4, e4, r4⟩ := hnt E d g w ln hE hs hln
          cases ok with
          | true =>
            obtain ⟨v0, hf, he, rfl, g', rfl, hh⟩ := kx_evP (E := E) (d := d + (8 * (5 - op) + 2)) (y := 49) (h := kv_wd g w) (as := [.ref 48, .int (nI op)]) (P := fun v0 h => v0 = (some (.int 1) : Option Value) ∧ ∃ g' : kv_S, h = kv_wd g' w ∧ kx_CR g g' a2 true ln (cd ++ [-33])) (by decide) (Nat.le_of_ble_eq_true rfl) (by
              refine kx_st 0 (pc' := 0) (L' := [some (.ref 48), some (.int (nI op)), none, none]) (st' := []) (h' := kv_wd g w) rfl ?_
              refine kx_st 4 (pc' := 8) (L' := [some (.ref 48), some (.int (nI op)), none, none]) (st' := [.int (g 48 2), .int (g 48 3)]) (h' := kv_wd g w) rfl ?_
              refine kx_bi (t := 13) rfl rfl (fun (h8 : g 48 3 < g 48 2) => ?_) (fun (h8 : ¬ (g 48 3 < g 48 2)) => ?_)
              · refine kx_st 4 (pc' := 21) (L' := [some (.ref 48), some (.int (nI op)), none, none]) (st' := [.int (g 48 3), .ref 52]) (h' := kv_wd g w) rfl ?_
                refine kx_ia (k := a) rfl rfl (by decide) hs.2.1 (by omega) (by decide) ?_
                refine kx_st 1 (pc' := 23) (L' := [some (.ref 48), some (.int (nI op)), some (.int (g 52 a)), none]) (st' := []) (h' := kv_wd g w) rfl ?_
                rw [hs.2.2.2.1 a hlt, hx]
                refine kx_st 1 (pc' := 24) (L' := [some (.ref 48), some (.int (nI op)), some (.int 33), none]) (st' := [.int 33]) (h' := kv_wd g w) rfl ?_
                refine kx_call (z := 53) (as := [.int 33]) (rest := []) (v := some (.int (kx_b (48 ≤ (33 : Int32) ∧ (33 : Int32) ≤ 57)))) (h1 := kv_wd g w) rfl (kx_ev_le (d := 0 + 1) (by omega) (ev_isDigitX (d := 0) _)) ?_
                refine kx_st 0 (pc' := 27) (L' := [some (.ref 48), some (.int (nI op)), some (.int 33), none]) (st' := [.int (kx_b (48 ≤ (33 : Int32) ∧ (33 : Int32) ≤ 57))]) (h' := kv_wd g w) rfl ?_
                refine kx_be (t := 36) rfl rfl (fun (h27 : ¬ (48 ≤ (33 : Int32) ∧ (33 : Int32) ≤ 57)) => ?_) (fun (h27 : (48 ≤ (33 : Int32) ∧ (33 : Int32) ≤ 57)) => ?_)
                · refine kx_st 2 (pc' := 38) (L' := [some (.ref 48), some (.int (nI op)), some (.int 33), none]) (st' := [.int 33, .ref 48]) (h' := kv_wd g w) rfl ?_
                  refine kx_call (z := 54) (as := [.ref 48, .int 33]) (rest := []) (v := some (.int 0)) (h1 := kv_wd g w) rfl (kx_ev_le (d := 0 + 1) (by omega) (ev_nm_1_n (d := 0) hE hs.2.2.1 33 ⟨by decide, by decide, by decide⟩)) ?_
                  refine kx_st 0 (pc' := 41) (L' := [some (.ref 48), some (.int (nI op)), some (.int 33), none]) (st' := [.int 0]) (h' := kv_wd g w) rfl ?_
                  refine kx_st 2 (pc' := 43) (L' := [some (.ref 48), some (.int (nI op)), some (.int 33), some (.int 0)]) (st' := [.int 0]) (h' := kv_wd g w) rfl ?_
                  refine kx_st 1 (pc' := 67) (L' := [some (.ref 48), some (.int (nI op)), some (.int 33), some (.int 0)]) (st' := []) (h' := kv_wd g w) rfl ?_
                  refine kx_st 2 (pc' := 69) (L' := [some (.ref 48), some (.int (nI op)), some (.int 33), some (.int 0)]) (st' := [.int 5, .int (nI op)]) (h' := kv_wd g w) rfl ?_
                  refine kx_bi (t := 74) rfl rfl (fun (h69 : nI op < 5) => ?_) (fun (h69 : ¬ (nI op < 5)) => ?_)
                  · refine kx_st 2 (pc' := 77) (L' := [some (.ref 48), some (.int (nI op)), some (.int 33), some (.int 0)]) (st' := [.int 33, .int 33]) (h' := kv_wd g w) rfl ?_
                    refine kx_st 1 (pc' := 80) (L' := [some (.ref 48), some (.int (nI op)), some (.int 33), some (.int 0)]) (st' := []) (h' := kv_wd g w) rfl ?_
                    refine kx_st 4 (pc' := 84) (L' := [some (.ref 48), some (.int (nI op)), some (.int 33), some (.int 0)]) (st' := [.int ((nI op) + 1), .ref 48]) (h' := kv_wd g w) rfl ?_
                    refine kx_call (z := 50) (as := [.ref 48, .int ((nI op) + 1)]) (rest := []) (v := some (.int 1)) (h1 := kv_wd g4 w) rfl (by rw [← nI_succ]; exact kx_ev_le (by omega) e4) ?_
                    refine kx_st 0 (pc' := 87) (L' := [some (.ref 48), some (.int (nI op)), some (.int 33), some (.int 0)]) (st' := [.int 1]) (h' := kv_wd g4 w) rfl ?_
                    refine kx_ret (v := some (.int 1)) rfl ?_
                    exact ⟨rfl, _, rfl, r4⟩
                  · exact absurd (nI_lt (a := op) (b := 5) (by omega) (by omega)) h69
                · exact absurd h27 (by decide)
              · exact absurd (by rw [hs.2.1, hs.1]; exact nI_lt (a := a) (b := n) hlt (by omega)) h8)
            exact ⟨g', kx_ev_le (by omega) he, hh⟩
          | false =>
            obtain ⟨v0, hf, he, rfl, g', rfl, hh⟩ := kx_evP (E := E) (d := d + (8 * (5 - op) + 2)) (y := 49) (h := kv_wd g w) (as := [.ref 48, .int (nI op)]) (P := fun v0 h => v0 = (some (.int 0) : Option Value) ∧ ∃ g' : kv_S, h = kv_wd g' w ∧ kx_CR g g' a2 false ln (cd ++ [-33])) (by decide) (Nat.le_of_ble_eq_true rfl) (by
              refine kx_st 0 (pc' := 0) (L' := [some (.ref 48), some (.int (nI op)), none, none]) (st' := []) (h' := kv_wd g w) rfl ?_
              refine kx_st 4 (pc' := 8) (L' := [some (.ref 48), some (.int (nI op)), none, none]) (st' := [.int (g 48 2), .int (g 48 3)]) (h' := kv_wd g w) rfl ?_
              refine kx_bi (t := 13) rfl rfl (fun (h8 : g 48 3 < g 48 2) => ?_) (fun (h8 : ¬ (g 48 3 < g 48 2)) => ?_)
              · refine kx_st 4 (pc' := 21) (L' := [some (.ref 48), some (.int (nI op)), none, none]) (st' := [.int (g 48 3), .ref 52]) (h' := kv_wd g w) rfl ?_
                refine kx_ia (k := a) rfl rfl (by decide) hs.2.1 (by omega) (by decide) ?_
                refine kx_st 1 (pc' := 23) (L' := [some (.ref 48), some (.int (nI op)), some (.int (g 52 a)), none]) (st' := []) (h' := kv_wd g w) rfl ?_
                rw [hs.2.2.2.1 a hlt, hx]
                refine kx_st 1 (pc' := 24) (L' := [some (.ref 48), some (.int (nI op)), some (.int 33), none]) (st' := [.int 33]) (h' := kv_wd g w) rfl ?_
                refine kx_call (z := 53) (as := [.int 33]) (rest := []) (v := some (.int (kx_b (48 ≤ (33 : Int32) ∧ (33 : Int32) ≤ 57)))) (h1 := kv_wd g w) rfl (kx_ev_le (d := 0 + 1) (by omega) (ev_isDigitX (d := 0) _)) ?_
                refine kx_st 0 (pc' := 27) (L' := [some (.ref 48), some (.int (nI op)), some (.int 33), none]) (st' := [.int (kx_b (48 ≤ (33 : Int32) ∧ (33 : Int32) ≤ 57))]) (h' := kv_wd g w) rfl ?_
                refine kx_be (t := 36) rfl rfl (fun (h27 : ¬ (48 ≤ (33 : Int32) ∧ (33 : Int32) ≤ 57)) => ?_) (fun (h27 : (48 ≤ (33 : Int32) ∧ (33 : Int32) ≤ 57)) => ?_)
                · refine kx_st 2 (pc' := 38) (L' := [some (.ref 48), some (.int (nI op)), some (.int 33), none]) (st' := [.int 33, .ref 48]) (h' := kv_wd g w) rfl ?_
                  refine kx_call (z := 54) (as := [.ref 48, .int 33]) (rest := []) (v := some (.int 0)) (h1 := kv_wd g w) rfl (kx_ev_le (d := 0 + 1) (by omega) (ev_nm_1_n (d := 0) hE hs.2.2.1 33 ⟨by decide, by decide, by decide⟩)) ?_
                  refine kx_st 0 (pc' := 41) (L' := [some (.ref 48), some (.int (nI op)), some (.int 33), none]) (st' := [.int 0]) (h' := kv_wd g w) rfl ?_
                  refine kx_st 2 (pc' := 43) (L' := [some (.ref 48), some (.int (nI op)), some (.int 33), some (.int 0)]) (st' := [.int 0]) (h' := kv_wd g w) rfl ?_
                  refine kx_st 1 (pc' := 67) (L' := [some (.ref 48), some (.int (nI op)), some (.int 33), some (.int 0)]) (st' := []) (h' := kv_wd g w) rfl ?_
                  refine kx_st 2 (pc' := 69) (L' := [some (.ref 48), some (.int (nI op)), some (.int 33), some (.int 0)]) (st' := [.int 5, .int (nI op)]) (h' := kv_wd g w) rfl ?_
                  refine kx_bi (t := 74) rfl rfl (fun (h69 : nI op < 5) => ?_) (fun (h69 : ¬ (nI op < 5)) => ?_)
                  · refine kx_st 2 (pc' := 77) (L' := [some (.ref 48), some (.int (nI op)), some (.int 33), some (.int 0)]) (st' := [.int 33, .int 33]) (h' := kv_wd g w) rfl ?_
                    refine kx_st 1 (pc' := 80) (L' := [some (.ref 48), some (.int (nI op)), some (.int 33), some (.int 0)]) (st' := []) (h' := kv_wd g w) rfl ?_
                    refine kx_st 4 (pc' := 84) (L' := [some (.ref 48), some (.int (nI op)), some (.int 33), some (.int 0)]) (st' := [.int ((nI op) + 1), .ref 48]) (h' := kv_wd g w) rfl ?_
                    refine kx_call (z := 50) (as := [.ref 48, .int ((nI op) + 1)]) (rest := []) (v := some (.int 0)) (h1 := kv_wd g4 w) rfl (by rw [← nI_succ]; exact kx_ev_le (by omega) e4) ?_
                    refine kx_st 0 (pc' := 87) (L' := [some (.ref 48), some (.int (nI op)), some (.int 33), some (.int 0)]) (st' := [.int 0]) (h' := kv_wd g4 w) rfl ?_
                    refine kx_ret (v := some (.int 0)) rfl ?_
                    exact ⟨rfl, _, rfl, r4⟩
                  · exact absurd (nI_lt (a := op) (b := 5) (by omega) (by omega)) h69
                · exact absurd h27 (by decide)
              · exact absurd (by rw [hs.2.1, hs.1]; exact nI_lt (a := a) (b := n) hlt (by omega)) h8)
            exact ⟨g', kx_ev_le (by omega) he, hh⟩
        · intro A B C
          obtain ⟨v, hv1, hv2⟩ := hpm A B C
          refine ⟨if v = 0 then 1 else 0, fun z st => ?_, ?_⟩
          · rw [kx_ex_app, hv1 z st]
            show kx_e1 A B C (-33) (v :: st) = _
            unfold kx_e1
            rw [if_neg (by decide)]
            rfl
          · intro E d g w hs
            have hbt : kx_bt tx n a = 33 := by rw [show kx_bt tx n a = tx a from if_pos hlt]; exact hx
            have hs2 : kx_RS tx n 1 (kv_up (kv_up g 65 10 (g 65 10 + 1)) 65 8 ((kv_up g 65 10 (g 65 10 + 1)) 65 8 + 1)) (a + 1) (op + 1) A B C := ⟨⟨hs.1.1, by show g 65 8 + 1 = _; rw [hs.1.2.1, nI_succ], hs.1.2.2.1, by show g 65 10 + 1 = _; rw [hs.1.2.2.2, nI_succ]⟩, hs.2.1, hs.2.2.1, hs.2.2.2⟩
            obtain ⟨v0, hf, he, rfl, g', rfl, hh⟩ := kx_evP (E := E) (d := d + (6 * (5 - op) + 3)) (y := 160) (h := kv_wd g w) (as := [.ref 65]) (P := fun v0 h => v0 = (some (.int (if v = 0 then 1 else 0)) : Option Value) ∧ ∃ g' : kv_S, h = kv_wd g' w ∧ kx_RG g g' a2 op ok) (by decide) (Nat.le_of_ble_eq_true rfl) (by
              refine kx_st 0 (pc' := 0) (L' := [some (.ref 65), none, none]) (st' := []) (h' := kv_wd g w) rfl ?_
              refine kx_st 3 (pc' := 5) (L' := [some (.ref 65), none, none]) (st' := [.int (g 65 8), .ref 65]) (h' := kv_wd g w) rfl ?_
              refine kx_call (z := 155) (as := [.ref 65, .int (g 65 8)]) (rest := []) (v := some (.int 33)) (h1 := kv_wd g w) rfl (by rw [show g 65 8 = nI a from hs.1.2.1]; have z := ev_byteAt (E := E) (d := 0) (w := w) hs n50 (by omega) a (by omega); rw [hbt] at z; exact kx_ev_le (by omega) z) ?_
              refine kx_st 0 (pc' := 8) (L' := [some (.ref 65), none, none]) (st' := [.int 33]) (h' := kv_wd g w) rfl ?_
              refine kx_st 2 (pc' := 10) (L' := [some (.ref 65), some (.int 33), none]) (st' := [.int 33]) (h' := kv_wd g w) rfl ?_
              refine kx_call (z := 156) (as := [.int 33]) (rest := []) (v := some (.int (kx_b (48 ≤ (33 : Int32) ∧ (33 : Int32) ≤ 57)))) (h1 := kv_wd g w) rfl (kx_ev_le (d := 0 + 2) (by omega) (ev_isDigitM (d := 0) _)) ?_
              refine kx_st 0 (pc' := 13) (L' := [some (.ref 65), some (.int 33), none]) (st' := [.int (kx_b (48 ≤ (33 : Int32) ∧ (33 : Int32) ≤ 57))]) (h' := kv_wd g w) rfl ?_
              refine kx_be (t := 21) rfl rfl (fun (h13 : ¬ (48 ≤ (33 : Int32) ∧ (33 : Int32) ≤ 57)) => ?_) (fun (h13 : (48 ≤ (33 : Int32) ∧ (33 : Int32) ≤ 57)) => ?_)
              · refine kx_st 2 (pc' := 24) (L' := [some (.ref 65), some (.int 33), none]) (st' := [.int 33, .int 33]) (h' := kv_wd g w) rfl ?_
                refine kx_st 1 (pc' := 39) (L' := [some (.ref 65), some (.int 33), none]) (st' := []) (h' := kv_wd g w) rfl ?_
                refine kx_st 3 (pc' := 44) (L' := [some (.ref 65), some (.int 33), none]) (st' := [.int 5, .int (g 65 10)]) (h' := kv_wd g w) rfl ?_
                refine kx_bi (t := 52) rfl rfl (fun (h44 : ¬ g 65 10 = 5) => ?_) (fun (h44 : ¬ (¬ g 65 10 = 5)) => ?_)
                · refine kx_st 5 (pc' := 59) (L' := [some (.ref 65), some (.int 33), none]) (st' := [.int ((g 65 10) + 1), .ref 65]) (h' := kv_wd g w) rfl ?_
                  refine kx_pf (i := 140) (k := 10) (x := ((g 65 10) + 1)) rfl rfl (by decide) rfl (Nat.le_of_ble_eq_true rfl) rfl rfl rfl ?_
                  refine kx_st 5 (pc' := 69) (L' := [some (.ref 65), some (.int 33), none]) (st' := [.int (((kv_up g 65 10 ((g 65 10) + 1)) 65 8) + 1), .ref 65]) (h' := kv_wd (kv_up g 65 10 ((g 65 10) + 1)) w) rfl ?_
                  refine kx_pf (i := 113) (k := 8) (x := (((kv_up g 65 10 ((g 65 10) + 1)) 65 8) + 1)) rfl rfl (by decide) rfl (Nat.le_of_ble_eq_true rfl) rfl rfl rfl ?_
                  refine kx_st 2 (pc' := 75) (L' := [some (.ref 65), some (.int 33), none]) (st' := [.int 33, .int 33]) (h' := kv_wd (kv_up (kv_up g 65 10 ((g 65 10) + 1)) 65 8 (((kv_up g 65 10 ((g 65 10) + 1)) 65 8) + 1)) w) rfl ?_
                  refine kx_st 1 (pc' := 78) (L' := [some (.ref 65), some (.int 33), none]) (st' := []) (h' := kv_wd (kv_up (kv_up g 65 10 ((g 65 10) + 1)) 65 8 (((kv_up g 65 10 ((g 65 10) + 1)) 65 8) + 1)) w) rfl ?_
                  refine kx_st 1 (pc' := 79) (L' := [some (.ref 65), some (.int 33), none]) (st' := [.ref 65]) (h' := kv_wd (kv_up (kv_up g 65 10 ((g 65 10) + 1)) 65 8 (((kv_up g 65 10 ((g 65 10) + 1)) 65 8) + 1)) w) rfl ?_
                  obtain ⟨g3, e3, r3⟩ := hv2 E d _ w hs2
                  refine kx_call (z := 160) (as := [.ref 65]) (rest := []) (v := some (.int v)) (h1 := kv_wd g3 w) rfl (kx_ev_le (by omega) e3) ?_
                  refine kx_st 0 (pc' := 82) (L' := [some (.ref 65), some (.int 33), none]) (st' := [.int v]) (h' := kv_wd g3 w) rfl ?_
                  refine kx_st 7 (pc' := 97) (L' := [some (.ref 65), some (.int 33), some (.int v)]) (st' := [.int ((g3 65 10) - 1), .ref 65]) (h' := kv_wd g3 w) rfl ?_
                  refine kx_pf (i := 140) (k := 10) (x := ((g3 65 10) - 1)) rfl rfl (by decide) rfl (Nat.le_of_ble_eq_true rfl) rfl rfl rfl ?_
                  refine kx_st 2 (pc' := 103) (L' := [some (.ref 65), some (.int 33), some (.int v)]) (st' := [.int 33, .int 33]) (h' := kv_wd (kv_up g3 65 10 ((g3 65 10) - 1)) w) rfl ?_
                  refine kx_st 1 (pc' := 106) (L' := [some (.ref 65), some (.int 33), some (.int v)]) (st' := []) (h' := kv_wd (kv_up g3 65 10 ((g3 65 10) - 1)) w) rfl ?_
                  refine kx_st 1 (pc' := 107) (L' := [some (.ref 65), some (.int 33), some (.int v)]) (st' := [.int v]) (h' := kv_wd (kv_up g3 65 10 ((g3 65 10) - 1)) w) rfl ?_
                  refine kx_bc (t := 114) rfl rfl (fun (h107 : ¬ v = 0) => ?_) (fun (h107 : ¬ (¬ v = 0)) => ?_)
                  · refine kx_st 1 (pc' := 115) (L' := [some (.ref 65), some (.int 33), some (.int v)]) (st' := [.int 0]) (h' := kv_wd (kv_up g3 65 10 ((g3 65 10) - 1)) w) rfl ?_
                    refine kx_ret (v := some (.int 0)) rfl ?_
                    exact ⟨by rw [if_neg h107], _, rfl, kx_RG_op (fun b hb => by rw [kv_up_ne hb, kv_up_ne hb]) (fun k k8 k10 => (show upd (upd (g 65) 10 _) 8 _ k = _ from (kx_upn k8).trans (kx_upn k10))) r3⟩
                  · refine kx_st 0 (pc' := 110) (L' := [some (.ref 65), some (.int 33), some (.int v)]) (st' := []) (h' := kv_wd (kv_up g3 65 10 ((g3 65 10) - 1)) w) rfl ?_
                    refine kx_st 2 (pc' := 115) (L' := [some (.ref 65), some (.int 33), some (.int v)]) (st' := [.int 1]) (h' := kv_wd (kv_up g3 65 10 ((g3 65 10) - 1)) w) rfl ?_
                    refine kx_ret (v := some (.int 1)) rfl ?_
                    exact ⟨by rw [if_pos (Classical.not_not.mp h107)], _, rfl, kx_RG_op (fun b hb => by rw [kv_up_ne hb, kv_up_ne hb]) (fun k k8 k10 => (show upd (upd (g 65) 10 _) 8 _ k = _ from (kx_upn k8).trans (kx_upn k10))) r3⟩
                · exact absurd (Classical.not_not.mp h44) (by rw [hs.1.2.2.2]; exact kx_ne_nI (a := op) (b := 5) (by omega) (by omega) hop)
              · exact absurd h13 (by decide))
            exact ⟨g', kx_ev_le (by omega) he, hh⟩
    by_cases h40 : tx a = 40
    · have hx := h40
      by_cases hop : op = 5
      · refine ⟨false, a, [], ⟨⟨Nat.le_refl _, han⟩, fun z => by cases z⟩, ?_, ?_⟩
        · intro E d g w ln hE hs hln
          obtain ⟨v0, hf, he, rfl, g', rfl, hh⟩ := kx_evP (E := E) (d := d + (8 * (5 - op) + 2)) (y := 49) (h := kv_wd g w) (as := [.ref 48, .int (nI op)]) (P := fun v0 h => v0 = (some (.int 0) : Option Value) ∧ ∃ g' : kv_S, h = kv_wd g' w ∧ kx_CR g g' a false ln []) (by decide) (Nat.le_of_ble_eq_true rfl) (by
            refine kx_st 0 (pc' := 0) (L' := [some (.ref 48), some (.int (nI op)), none, none]) (st' := []) (h' := kv_wd g w) rfl ?_
            refine kx_st 4 (pc' := 8) (L' := [some (.ref 48), some (.int (nI op)), none, none]) (st' := [.int (g 48 2), .int (g 48 3)]) (h' := kv_wd g w) rfl ?_
            refine kx_bi (t := 13) rfl rfl (fun (h8 : g 48 3 < g 48 2) => ?_) (fun (h8 : ¬ (g 48 3 < g 48 2)) => ?_)
            · refine kx_st 4 (pc' := 21) (L' := [some (.ref 48), some (.int (nI op)), none, none]) (st' := [.int (g 48 3), .ref 52]) (h' := kv_wd g w) rfl ?_
              refine kx_ia (k := a) rfl rfl (by decide) hs.2.1 (by omega) (by decide) ?_
              refine kx_st 1 (pc' := 23) (L' := [some (.ref 48), some (.int (nI op)), some (.int (g 52 a)), none]) (st' := []) (h' := kv_wd g w) rfl ?_
              rw [hs.2.2.2.1 a hlt, hx]
              refine kx_st 1 (pc' := 24) (L' := [some (.ref 48), some (.int (nI op)), some (.int 40), none]) (st' := [.int 40]) (h' := kv_wd g w) rfl ?_
              refine kx_call (z := 53) (as := [.int 40]) (rest := []) (v := some (.int (kx_b (48 ≤ (40 : Int32) ∧ (40 : Int32) ≤ 57)))) (h1 := kv_wd g w) rfl (kx_ev_le (d := 0 + 1) (by omega) (ev_isDigitX (d := 0) _)) ?_
              refine kx_st 0 (pc' := 27) (L' := [some (.ref 48), some (.int (nI op)), some (.int 40), none]) (st' := [.int (kx_b (48 ≤ (40 : Int32) ∧ (40 : Int32) ≤ 57))]) (h' := kv_wd g w) rfl ?_
              refine kx_be (t := 36) rfl rfl (fun (h27 : ¬ (48 ≤ (40 : Int32) ∧ (40 : Int32) ≤ 57)) => ?_) (fun (h27 : (48 ≤ (40 : Int32) ∧ (40 : Int32) ≤ 57)) => ?_)
              · refine kx_st 2 (pc' := 38) (L' := [some (.ref 48), some (.int (nI op)), some (.int 40), none]) (st' := [.int 40, .ref 48]) (h' := kv_wd g w) rfl ?_
                refine kx_call (z := 54) (as := [.ref 48, .int 40]) (rest := []) (v := some (.int 0)) (h1 := kv_wd g w) rfl (kx_ev_le (d := 0 + 1) (by omega) (ev_nm_1_n (d := 0) hE hs.2.2.1 40 ⟨by decide, by decide, by decide⟩)) ?_
                refine kx_st 0 (pc' := 41) (L' := [some (.ref 48), some (.int (nI op)), some (.int 40), none]) (st' := [.int 0]) (h' := kv_wd g w) rfl ?_
                refine kx_st 2 (pc' := 43) (L' := [some (.ref 48), some (.int (nI op)), some (.int 40), some (.int 0)]) (st' := [.int 0]) (h' := kv_wd g w) rfl ?_
                refine kx_st 1 (pc' := 67) (L' := [some (.ref 48), some (.int (nI op)), some (.int 40), some (.int 0)]) (st' := []) (h' := kv_wd g w) rfl ?_
                refine kx_st 2 (pc' := 69) (L' := [some (.ref 48), some (.int (nI op)), some (.int 40), some (.int 0)]) (st' := [.int 5, .int (nI op)]) (h' := kv_wd g w) rfl ?_
                refine kx_bi (t := 74) rfl rfl (fun (h69 : nI op < 5) => ?_) (fun (h69 : ¬ (nI op < 5)) => ?_)
                · exact absurd h69 (by rw [hop]; decide)
                · refine kx_st 0 (pc' := 72) (L' := [some (.ref 48), some (.int (nI op)), some (.int 40), some (.int 0)]) (st' := []) (h' := kv_wd g w) rfl ?_
                  refine kx_st 1 (pc' := 73) (L' := [some (.ref 48), some (.int (nI op)), some (.int 40), some (.int 0)]) (st' := [.int 0]) (h' := kv_wd g w) rfl ?_
                  refine kx_ret (v := some (.int 0)) rfl ?_
                  exact ⟨rfl, _, rfl, kx_CR_0 hs false⟩
              · exact absurd h27 (by decide)
            · exact absurd (by rw [hs.2.1, hs.1]; exact nI_lt (a := a) (b := n) hlt (by omega)) h8)
          exact ⟨g', kx_ev_le (by omega) he, hh⟩
        · intro A B C
          refine ⟨0, (fun z => nomatch z), ?_⟩
          intro E d g w hs
          have hbt : kx_bt tx n a = 40 := by rw [show kx_bt tx n a = tx a from if_pos hlt]; exact hx
          obtain ⟨v0, hf, he, rfl, g', rfl, hh⟩ := kx_evP (E := E) (d := d + (6 * (5 - op) + 3)) (y := 160) (h := kv_wd g w) (as := [.ref 65]) (P := fun v0 h => v0 = (some (.int 0) : Option Value) ∧ ∃ g' : kv_S, h = kv_wd g' w ∧ kx_RG g g' a op false) (by decide) (Nat.le_of_ble_eq_true rfl) (by
            refine kx_st 0 (pc' := 0) (L' := [some (.ref 65), none, none]) (st' := []) (h' := kv_wd g w) rfl ?_
            refine kx_st 3 (pc' := 5) (L' := [some (.ref 65), none, none]) (st' := [.int (g 65 8), .ref 65]) (h' := kv_wd g w) rfl ?_
            refine kx_call (z := 155) (as := [.ref 65, .int (g 65 8)]) (rest := []) (v := some (.int 40)) (h1 := kv_wd g w) rfl (by rw [show g 65 8 = nI a from hs.1.2.1]; have z := ev_byteAt (E := E) (d := 0) (w := w) hs n50 (by omega) a (by omega); rw [hbt] at z; exact kx_ev_le (by omega) z) ?_
            refine kx_st 0 (pc' := 8) (L' := [some (.ref 65), none, none]) (st' := [.int 40]) (h' := kv_wd g w) rfl ?_
            refine kx_st 2 (pc' := 10) (L' := [some (.ref 65), some (.int 40), none]) (st' := [.int 40]) (h' := kv_wd g w) rfl ?_
            refine kx_call (z := 156) (as := [.int 40]) (rest := []) (v := some (.int (kx_b (48 ≤ (40 : Int32) ∧ (40 : Int32) ≤ 57)))) (h1 := kv_wd g w) rfl (kx_ev_le (d := 0 + 2) (by omega) (ev_isDigitM (d := 0) _)) ?_
            refine kx_st 0 (pc' := 13) (L' := [some (.ref 65), some (.int 40), none]) (st' := [.int (kx_b (48 ≤ (40 : Int32) ∧ (40 : Int32) ≤ 57))]) (h' := kv_wd g w) rfl ?_
            refine kx_be (t := 21) rfl rfl (fun (h13 : ¬ (48 ≤ (40 : Int32) ∧ (40 : Int32) ≤ 57)) => ?_) (fun (h13 : (48 ≤ (40 : Int32) ∧ (40 : Int32) ≤ 57)) => ?_)
            · refine kx_st 2 (pc' := 24) (L' := [some (.ref 65), some (.int 40), none]) (st' := [.int 33, .int 40]) (h' := kv_wd g w) rfl ?_
              refine kx_st 1 (pc' := 27) (L' := [some (.ref 65), some (.int 40), none]) (st' := []) (h' := kv_wd g w) rfl ?_
              refine kx_st 2 (pc' := 30) (L' := [some (.ref 65), some (.int 40), none]) (st' := [.int 40, .int 40]) (h' := kv_wd g w) rfl ?_
              refine kx_st 1 (pc' := 39) (L' := [some (.ref 65), some (.int 40), none]) (st' := []) (h' := kv_wd g w) rfl ?_
              refine kx_st 3 (pc' := 44) (L' := [some (.ref 65), some (.int 40), none]) (st' := [.int 5, .int (g 65 10)]) (h' := kv_wd g w) rfl ?_
              refine kx_bi (t := 52) rfl rfl (fun (h44 : ¬ g 65 10 = 5) => ?_) (fun (h44 : ¬ (¬ g 65 10 = 5)) => ?_)
              · exact absurd (by rw [hs.1.2.2.2, hop]; rfl) h44
              · refine kx_st 0 (pc' := 47) (L' := [some (.ref 65), some (.int 40), none]) (st' := []) (h' := kv_wd g w) rfl ?_
                refine kx_st 1 (pc' := 48) (L' := [some (.ref 65), some (.int 40), none]) (st' := [.ref 65]) (h' := kv_wd g w) rfl ?_
                refine kx_call (z := 157) (as := [.ref 65]) (rest := []) (v := some (.int 0)) (h1 := kv_wd (kv_up g 65 14 0) w) rfl (kx_ev_le (d := 0 + 1) (by omega) (ev_fails (d := 0))) ?_
                refine kx_st 0 (pc' := 51) (L' := [some (.ref 65), some (.int 40), none]) (st' := [.int 0]) (h' := kv_wd (kv_up g 65 14 0) w) rfl ?_
                refine kx_ret (v := some (.int 0)) rfl ?_
                exact ⟨rfl, _, rfl, kx_RG_f hs.1.2.1 hs.1.2.2.2⟩
            · exact absurd h13 (by decide))
          exact ⟨g', kx_ev_le (by omega) he, hh⟩
      · obtain ⟨ok, a2, cd, hb, hpx, hpm⟩ := hw (by omega) (a + 1) (by omega)
        have hbk := kx_brk (by omega) hlt n50 hb hpx
        have ha2 := hb.1
        by_cases hcl : ok = true ∧ a2 < n ∧ tx a2 = 41
        · have hnt := hbk.1 hcl
          obtain ⟨rfl, hcl2, hcl3⟩ := hcl
          refine ⟨true, a2 + 1, cd, ⟨⟨by omega, by omega⟩, fun _ => ?_⟩, ?_, ?_⟩
          · have q1 := hb.2 rfl
            omega
          · intro E d g w ln hE hs hln
            obtain ⟨g4, e4, r4⟩ := hnt E d g w ln hE hs hln
            obtain ⟨v0, hf, he, rfl, g', rfl, hh⟩ := kx_evP (E := E) (d := d + (8 * (5 - op) + 2)) (y := 49) (h := kv_wd g w) (as := [.ref 48, .int (nI op)]) (P := fun v0 h => v0 = (some (.int 1) : Option Value) ∧ ∃ g' : kv_S, h = kv_wd g' w ∧ kx_CR g g' (a2 + 1) true ln cd) (by decide) (Nat.le_of_ble_eq_true rfl) (by
              refine kx_st 0 (pc' := 0) (L' := [some (.ref 48), some (.int (nI op)), none, none]) (st' := []) (h' := kv_wd g w) rfl ?_
              refine kx_st 4 (pc' := 8) (L' := [some (.ref 48), some (.int (nI op)), none, none]) (st' := [.int (g 48 2), .int (g 48 3)]) (h' := kv_wd g w) rfl ?_
              refine kx_bi (t := 13) rfl rfl (fun (h8 : g 48 3 < g 48 2) => ?_) (fun (h8 : ¬ (g 48 3 < g 48 2)) => ?_)
              · refine kx_st 4 (pc' := 21) (L' := [some (.ref 48), some (.int (nI op)), none, none]) (st' := [.int (g 48 3), .ref 52]) (h' := kv_wd g w) rfl ?_
                refine kx_ia (k := a) rfl rfl (by decide) hs.2.1 (by omega) (by decide) ?_
                refine kx_st 1 (pc' := 23) (L' := [some (.ref 48), some (.int (nI op)), some (.int (g 52 a)), none]) (st' := []) (h' := kv_wd g w) rfl ?_
                rw [hs.2.2.2.1 a hlt, hx]
                refine kx_st 1 (pc' := 24) (L' := [some (.ref 48), some (.int (nI op)), some (.int 40), none]) (st' := [.int 40]) (h' := kv_wd g w) rfl ?_
                refine kx_call (z := 53) (as := [.int 40]) (rest := []) (v := some (.int (kx_b (48 ≤ (40 : Int32) ∧ (40 : Int32) ≤ 57)))) (h1 := kv_wd g w) rfl (kx_ev_le (d := 0 + 1) (by omega) (ev_isDigitX (d := 0) _)) ?_
                refine kx_st 0 (pc' := 27) (L' := [some (.ref 48), some (.int (nI op)), some (.int 40), none]) (st' := [.int (kx_b (48 ≤ (40 : Int32) ∧ (40 : Int32) ≤ 57))]) (h' := kv_wd g w) rfl ?_
                refine kx_be (t := 36) rfl rfl (fun (h27 : ¬ (48 ≤ (40 : Int32) ∧ (40 : Int32) ≤ 57)) => ?_) (fun (h27 : (48 ≤ (40 : Int32) ∧ (40 : Int32) ≤ 57)) => ?_)
                · refine kx_st 2 (pc' := 38) (L' := [some (.ref 48), some (.int (nI op)), some (.int 40), none]) (st' := [.int 40, .ref 48]) (h' := kv_wd g w) rfl ?_
                  refine kx_call (z := 54) (as := [.ref 48, .int 40]) (rest := []) (v := some (.int 0)) (h1 := kv_wd g w) rfl (kx_ev_le (d := 0 + 1) (by omega) (ev_nm_1_n (d := 0) hE hs.2.2.1 40 ⟨by decide, by decide, by decide⟩)) ?_
                  refine kx_st 0 (pc' := 41) (L' := [some (.ref 48), some (.int (nI op)), some (.int 40), none]) (st' := [.int 0]) (h' := kv_wd g w) rfl ?_
                  refine kx_st 2 (pc' := 43) (L' := [some (.ref 48), some (.int (nI op)), some (.int 40), some (.int 0)]) (st' := [.int 0]) (h' := kv_wd g w) rfl ?_
                  refine kx_st 1 (pc' := 67) (L' := [some (.ref 48), some (.int (nI op)), some (.int 40), some (.int 0)]) (st' := []) (h' := kv_wd g w) rfl ?_
                  refine kx_st 2 (pc' := 69) (L' := [some (.ref 48), some (.int (nI op)), some (.int 40), some (.int 0)]) (st' := [.int 5, .int (nI op)]) (h' := kv_wd g w) rfl ?_
                  refine kx_bi (t := 74) rfl rfl (fun (h69 : nI op < 5) => ?_) (fun (h69 : ¬ (nI op < 5)) => ?_)
                  · refine kx_st 2 (pc' := 77) (L' := [some (.ref 48), some (.int (nI op)), some (.int 40), some (.int 0)]) (st' := [.int 33, .int 40]) (h' := kv_wd g w) rfl ?_
                    refine kx_st 1 (pc' := 88) (L' := [some (.ref 48), some (.int (nI op)), some (.int 40), some (.int 0)]) (st' := []) (h' := kv_wd g w) rfl ?_
                    refine kx_st 2 (pc' := 91) (L' := [some (.ref 48), some (.int (nI op)), some (.int 40), some (.int 0)]) (st' := [.int 40, .int 40]) (h' := kv_wd g w) rfl ?_
                    refine kx_st 1 (pc' := 94) (L' := [some (.ref 48), some (.int (nI op)), some (.int 40), some (.int 0)]) (st' := []) (h' := kv_wd g w) rfl ?_
                    refine kx_st 4 (pc' := 98) (L' := [some (.ref 48), some (.int (nI op)), some (.int 40), some (.int 0)]) (st' := [.int ((nI op) + 1), .ref 48]) (h' := kv_wd g w) rfl ?_
                    refine kx_call (z := 51) (as := [.ref 48, .int ((nI op) + 1)]) (rest := []) (v := some (.int 1)) (h1 := kv_wd g4 w) rfl (by rw [← nI_succ]; exact kx_ev_le (by omega) e4) ?_
                    refine kx_st 0 (pc' := 101) (L' := [some (.ref 48), some (.int (nI op)), some (.int 40), some (.int 0)]) (st' := [.int 1]) (h' := kv_wd g4 w) rfl ?_
                    refine kx_st 1 (pc' := 104) (L' := [some (.ref 48), some (.int (nI op)), some (.int 40), some (.int 0)]) (st' := []) (h' := kv_wd g4 w) rfl ?_
                    refine kx_st 2 (pc' := 109) (L' := [some (.ref 48), some (.int (nI op)), some (.int 40), some (.int 0)]) (st' := [.int 1]) (h' := kv_wd g4 w) rfl ?_
                    refine kx_ret (v := some (.int 1)) rfl ?_
                    exact ⟨rfl, _, rfl, r4⟩
                  · exact absurd (nI_lt (a := op) (b := 5) (by omega) (by omega)) h69
                · exact absurd h27 (by decide)
              · exact absurd (by rw [hs.2.1, hs.1]; exact nI_lt (a := a) (b := n) hlt (by omega)) h8)
            exact ⟨g', kx_ev_le (by omega) he, hh⟩
          · intro A B C
            obtain ⟨v, hv1, hv2⟩ := hpm A B C
            refine ⟨v, hv1, ?_⟩
            intro E d g w hs
            have hbt : kx_bt tx n a = 40 := by rw [show kx_bt tx n a = tx a from if_pos hlt]; exact hx
            have hbt2 : kx_bt tx n a2 = 41 := by rw [show kx_bt tx n a2 = tx a2 from if_pos hcl2]; exact hcl3
            have hs2 : kx_RS tx n 1 (kv_up (kv_up g 65 10 (g 65 10 + 1)) 65 8 ((kv_up g 65 10 (g 65 10 + 1)) 65 8 + 1)) (a + 1) (op + 1) A B C := ⟨⟨hs.1.1, by show g 65 8 + 1 = _; rw [hs.1.2.1, nI_succ], hs.1.2.2.1, by show g 65 10 + 1 = _; rw [hs.1.2.2.2, nI_succ]⟩, hs.2.1, hs.2.2.1, hs.2.2.2⟩
            obtain ⟨v0, hf, he, rfl, g', rfl, hh⟩ := kx_evP (E := E) (d := d + (6 * (5 - op) + 3)) (y := 160) (h := kv_wd g w) (as := [.ref 65]) (P := fun v0 h => v0 = (some (.int v) : Option Value) ∧ ∃ g' : kv_S, h = kv_wd g' w ∧ kx_RG g g' (a2 + 1) op true) (by decide) (Nat.le_of_ble_eq_true rfl) (by
              refine kx_st 0 (pc' := 0) (L' := [some (.ref 65), none, none]) (st' := []) (h' := kv_wd g w) rfl ?_
              refine kx_st 3 (pc' := 5) (L' := [some (.ref 65), none, none]) (st' := [.int (g 65 8), .ref 65]) (h' := kv_wd g w) rfl ?_
              refine kx_call (z := 155) (as := [.ref 65, .int (g 65 8)]) (rest := []) (v := some (.int 40)) (h1 := kv_wd g w) rfl (by rw [show g 65 8 = nI a from hs.1.2.1]; have z := ev_byteAt (E := E) (d := 0) (w := w) hs n50 (by omega) a (by omega); rw [hbt] at z; exact kx_ev_le (by omega) z) ?_
              refine kx_st 0 (pc' := 8) (L' := [some (.ref 65), none, none]) (st' := [.int 40]) (h' := kv_wd g w) rfl ?_
              refine kx_st 2 (pc' := 10) (L' := [some (.ref 65), some (.int 40), none]) (st' := [.int 40]) (h' := kv_wd g w) rfl ?_
              refine kx_call (z := 156) (as := [.int 40]) (rest := []) (v := some (.int (kx_b (48 ≤ (40 : Int32) ∧ (40 : Int32) ≤ 57)))) (h1 := kv_wd g w) rfl (kx_ev_le (d := 0 + 2) (by omega) (ev_isDigitM (d := 0) _)) ?_
              refine kx_st 0 (pc' := 13) (L' := [some (.ref 65), some (.int 40), none]) (st' := [.int (kx_b (48 ≤ (40 : Int32) ∧ (40 : Int32) ≤ 57))]) (h' := kv_wd g w) rfl ?_
              refine kx_be (t := 21) rfl rfl (fun (h13 : ¬ (48 ≤ (40 : Int32) ∧ (40 : Int32) ≤ 57)) => ?_) (fun (h13 : (48 ≤ (40 : Int32) ∧ (40 : Int32) ≤ 57)) => ?_)
              · refine kx_st 2 (pc' := 24) (L' := [some (.ref 65), some (.int 40), none]) (st' := [.int 33, .int 40]) (h' := kv_wd g w) rfl ?_
                refine kx_st 1 (pc' := 27) (L' := [some (.ref 65), some (.int 40), none]) (st' := []) (h' := kv_wd g w) rfl ?_
                refine kx_st 2 (pc' := 30) (L' := [some (.ref 65), some (.int 40), none]) (st' := [.int 40, .int 40]) (h' := kv_wd g w) rfl ?_
                refine kx_st 1 (pc' := 39) (L' := [some (.ref 65), some (.int 40), none]) (st' := []) (h' := kv_wd g w) rfl ?_
                refine kx_st 3 (pc' := 44) (L' := [some (.ref 65), some (.int 40), none]) (st' := [.int 5, .int (g 65 10)]) (h' := kv_wd g w) rfl ?_
                refine kx_bi (t := 52) rfl rfl (fun (h44 : ¬ g 65 10 = 5) => ?_) (fun (h44 : ¬ (¬ g 65 10 = 5)) => ?_)
                · refine kx_st 5 (pc' := 59) (L' := [some (.ref 65), some (.int 40), none]) (st' := [.int ((g 65 10) + 1), .ref 65]) (h' := kv_wd g w) rfl ?_
                  refine kx_pf (i := 140) (k := 10) (x := ((g 65 10) + 1)) rfl rfl (by decide) rfl (Nat.le_of_ble_eq_true rfl) rfl rfl rfl ?_
                  refine kx_st 5 (pc' := 69) (L' := [some (.ref 65), some (.int 40), none]) (st' := [.int (((kv_up g 65 10 ((g 65 10) + 1)) 65 8) + 1), .ref 65]) (h' := kv_wd (kv_up g 65 10 ((g 65 10) + 1)) w) rfl ?_
                  refine kx_pf (i := 113) (k := 8) (x := (((kv_up g 65 10 ((g 65 10) + 1)) 65 8) + 1)) rfl rfl (by decide) rfl (Nat.le_of_ble_eq_true rfl) rfl rfl rfl ?_
                  refine kx_st 2 (pc' := 75) (L' := [some (.ref 65), some (.int 40), none]) (st' := [.int 33, .int 40]) (h' := kv_wd (kv_up (kv_up g 65 10 ((g 65 10) + 1)) 65 8 (((kv_up g 65 10 ((g 65 10) + 1)) 65 8) + 1)) w) rfl ?_
                  refine kx_st 1 (pc' := 85) (L' := [some (.ref 65), some (.int 40), none]) (st' := []) (h' := kv_wd (kv_up (kv_up g 65 10 ((g 65 10) + 1)) 65 8 (((kv_up g 65 10 ((g 65 10) + 1)) 65 8) + 1)) w) rfl ?_
                  refine kx_st 1 (pc' := 86) (L' := [some (.ref 65), some (.int 40), none]) (st' := [.ref 65]) (h' := kv_wd (kv_up (kv_up g 65 10 ((g 65 10) + 1)) 65 8 (((kv_up g 65 10 ((g 65 10) + 1)) 65 8) + 1)) w) rfl ?_
                  obtain ⟨g3, e3, r3⟩ := hv2 E d _ w hs2
                  refine kx_call (z := 165) (as := [.ref 65]) (rest := []) (v := some (.int v)) (h1 := kv_wd g3 w) rfl (kx_ev_le (by omega) e3) ?_
                  refine kx_st 0 (pc' := 89) (L' := [some (.ref 65), some (.int 40), none]) (st' := [.int v]) (h' := kv_wd g3 w) rfl ?_
                  refine kx_st 6 (pc' := 97) (L' := [some (.ref 65), some (.int 40), some (.int v)]) (st' := [.int ((g3 65 10) - 1), .ref 65]) (h' := kv_wd g3 w) rfl ?_
                  refine kx_pf (i := 140) (k := 10) (x := ((g3 65 10) - 1)) rfl rfl (by decide) rfl (Nat.le_of_ble_eq_true rfl) rfl rfl rfl ?_
                  refine kx_st 2 (pc' := 103) (L' := [some (.ref 65), some (.int 40), some (.int v)]) (st' := [.int 33, .int 40]) (h' := kv_wd (kv_up g3 65 10 ((g3 65 10) - 1)) w) rfl ?_
                  refine kx_st 1 (pc' := 116) (L' := [some (.ref 65), some (.int 40), some (.int v)]) (st' := []) (h' := kv_wd (kv_up g3 65 10 ((g3 65 10) - 1)) w) rfl ?_
                  refine kx_st 2 (pc' := 120) (L' := [some (.ref 65), some (.int 40), some (.int v)]) (st' := [.int ((kv_up g3 65 10 ((g3 65 10) - 1)) 65 14)]) (h' := kv_wd (kv_up g3 65 10 ((g3 65 10) - 1)) w) rfl ?_
                  refine kx_bc (t := 148) rfl rfl (fun (h120 : (kv_up g3 65 10 ((g3 65 10) - 1)) 65 14 = 0) => ?_) (fun (h120 : ¬ ((kv_up g3 65 10 ((g3 65 10) - 1)) 65 14 = 0)) => ?_)
                  · exact absurd h120 (show ¬ g3 65 14 = 0 by rw [r3.2.2.2.1]; decide)
                  · refine kx_st 0 (pc' := 123) (L' := [some (.ref 65), some (.int 40), some (.int v)]) (st' := []) (h' := kv_wd (kv_up g3 65 10 ((g3 65 10) - 1)) w) rfl ?_
                    refine kx_st 3 (pc' := 128) (L' := [some (.ref 65), some (.int 40), some (.int v)]) (st' := [.int ((kv_up g3 65 10 ((g3 65 10) - 1)) 65 8), .ref 65]) (h' := kv_wd (kv_up g3 65 10 ((g3 65 10) - 1)) w) rfl ?_
                    have r5 := kx_RG_op (fun b hb => by rw [kv_up_ne hb, kv_up_ne hb]) (fun k k8 k10 => (show upd (upd (g 65) 10 _) 8 _ k = _ from (kx_upn k8).trans (kx_upn k10))) r3
                    refine kx_call (z := 155) (as := [.ref 65, .int ((kv_up g3 65 10 ((g3 65 10) - 1)) 65 8)]) (rest := []) (v := some (.int 41)) (h1 := kv_wd (kv_up g3 65 10 ((g3 65 10) - 1)) w) rfl (by rw [show (kv_up g3 65 10 ((g3 65 10) - 1)) 65 8 = nI a2 from r3.2.1]; have z := ev_byteAt (E := E) (d := 0) (w := w) (kx_RS_of hs r5) n50 (by omega) a2 (by omega); rw [hbt2] at z; exact kx_ev_le (by omega) z) ?_
                    refine kx_st 0 (pc' := 131) (L' := [some (.ref 65), some (.int 40), some (.int v)]) (st' := [.int 41]) (h' := kv_wd (kv_up g3 65 10 ((g3 65 10) - 1)) w) rfl ?_
                    refine kx_st 1 (pc' := 133) (L' := [some (.ref 65), some (.int 40), some (.int v)]) (st' := [.int 41, .int 41]) (h' := kv_wd (kv_up g3 65 10 ((g3 65 10) - 1)) w) rfl ?_
                    refine kx_st 1 (pc' := 136) (L' := [some (.ref 65), some (.int 40), some (.int v)]) (st' := []) (h' := kv_wd (kv_up g3 65 10 ((g3 65 10) - 1)) w) rfl ?_
                    refine kx_st 5 (pc' := 143) (L' := [some (.ref 65), some (.int 40), some (.int v)]) (st' := [.int (((kv_up g3 65 10 ((g3 65 10) - 1)) 65 8) + 1), .ref 65]) (h' := kv_wd (kv_up g3 65 10 ((g3 65 10) - 1)) w) rfl ?_
                    refine kx_pf (i := 113) (k := 8) (x := (((kv_up g3 65 10 ((g3 65 10) - 1)) 65 8) + 1)) rfl rfl (by decide) rfl (Nat.le_of_ble_eq_true rfl) rfl rfl rfl ?_
                    refine kx_st 1 (pc' := 147) (L' := [some (.ref 65), some (.int 40), some (.int v)]) (st' := [.int v]) (h' := kv_wd (kv_up (kv_up g3 65 10 ((g3 65 10) - 1)) 65 8 (((kv_up g3 65 10 ((g3 65 10) - 1)) 65 8) + 1)) w) rfl ?_
                    refine kx_ret (v := some (.int v)) rfl ?_
                    exact ⟨rfl, _, rfl, kx_RG_t r5 (kx_RG_up (kx_RS_of hs r5) _ (by show g3 65 8 + 1 = _; rw [r3.2.1, nI_succ]))⟩
                · exact absurd (Classical.not_not.mp h44) (by rw [hs.1.2.2.2]; exact kx_ne_nI (a := op) (b := 5) (by omega) (by omega) hop)
              · exact absurd h13 (by decide))
            exact ⟨g', kx_ev_le (by omega) he, hh⟩
        · have hnt := hbk.2 hcl
          refine ⟨false, a2, [], ⟨⟨by omega, hb.1.2⟩, fun z => by cases z⟩, ?_, ?_⟩
          · intro E d g w ln hE hs hln
            obtain ⟨g4, e4, r4⟩ := hnt E d g w ln hE hs hln
            obtain ⟨v0, hf, he, rfl, g', rfl, hh⟩ := kx_evP (E := E) (d := d + (8 * (5 - op) + 2)) (y := 49) (h := kv_wd g w) (as := [.ref 48, .int (nI op)]) (P := fun v0 h => v0 = (some (.int 0) : Option Value) ∧ ∃ g' : kv_S, h = kv_wd g' w ∧ kx_CR g g' a2 false ln []) (by decide) (Nat.le_of_ble_eq_true rfl) (by
              refine kx_st 0 (pc' := 0) (L' := [some (.ref 48), some (.int (nI op)), none, none]) (st' := []) (h' := kv_wd g w) rfl ?_
              refine kx_st 4 (pc' := 8) (L' := [some (.ref 48), some (.int (nI op)), none, none]) (st' := [.int (g 48 2), .int (g 48 3)]) (h' := kv_wd g w) rfl ?_
              refine kx_bi (t := 13) rfl rfl (fun (h8 : g 48 3 < g 48 2) => ?_) (fun (h8 : ¬ (g 48 3 < g 48 2)) => ?_)
              · refine kx_st 4 (pc' := 21) (L' := [some (.ref 48), some (.int (nI op)), none, none]) (st' := [.int (g 48 3), .ref 52]) (h' := kv_wd g w) rfl ?_
                refine kx_ia (k := a) rfl rfl (by decide) hs.2.1 (by omega) (by decide) ?_
                refine kx_st 1 (pc' := 23) (L' := [some (.ref 48), some (.int (nI op)), some (.int (g 52 a)), none]) (st' := []) (h' := kv_wd g w) rfl ?_
                rw [hs.2.2.2.1 a hlt, hx]
                refine kx_st 1 (pc' := 24) (L' := [some (.ref 48), some (.int (nI op)), some (.int 40), none]) (st' := [.int 40]) (h' := kv_wd g w) rfl ?_
                refine kx_call (z := 53) (as := [.int 40]) (rest := []) (v := some (.int (kx_b (48 ≤ (40 : Int32) ∧ (40 : Int32) ≤ 57)))) (h1 := kv_wd g w) rfl (kx_ev_le (d := 0 + 1) (by omega) (ev_isDigitX (d := 0) _)) ?_
                refine kx_st 0 (pc' := 27) (L' := [some (.ref 48), some (.int (nI op)), some (.int 40), none]) (st' := [.int (kx_b (48 ≤ (40 : Int32) ∧ (40 : Int32) ≤ 57))]) (h' := kv_wd g w) rfl ?_
                refine kx_be (t := 36) rfl rfl (fun (h27 : ¬ (48 ≤ (40 : Int32) ∧ (40 : Int32) ≤ 57)) => ?_) (fun (h27 : (48 ≤ (40 : Int32) ∧ (40 : Int32) ≤ 57)) => ?_)
                · refine kx_st 2 (pc' := 38) (L' := [some (.ref 48), some (.int (nI op)), some (.int 40), none]) (st' := [.int 40, .ref 48]) (h' := kv_wd g w) rfl ?_
                  refine kx_call (z := 54) (as := [.ref 48, .int 40]) (rest := []) (v := some (.int 0)) (h1 := kv_wd g w) rfl (kx_ev_le (d := 0 + 1) (by omega) (ev_nm_1_n (d := 0) hE hs.2.2.1 40 ⟨by decide, by decide, by decide⟩)) ?_
                  refine kx_st 0 (pc' := 41) (L' := [some (.ref 48), some (.int (nI op)), some (.int 40), none]) (st' := [.int 0]) (h' := kv_wd g w) rfl ?_
                  refine kx_st 2 (pc' := 43) (L' := [some (.ref 48), some (.int (nI op)), some (.int 40), some (.int 0)]) (st' := [.int 0]) (h' := kv_wd g w) rfl ?_
                  refine kx_st 1 (pc' := 67) (L' := [some (.ref 48), some (.int (nI op)), some (.int 40), some (.int 0)]) (st' := []) (h' := kv_wd g w) rfl ?_
                  refine kx_st 2 (pc' := 69) (L' := [some (.ref 48), some (.int (nI op)), some (.int 40), some (.int 0)]) (st' := [.int 5, .int (nI op)]) (h' := kv_wd g w) rfl ?_
                  refine kx_bi (t := 74) rfl rfl (fun (h69 : nI op < 5) => ?_) (fun (h69 : ¬ (nI op < 5)) => ?_)
                  · refine kx_st 2 (pc' := 77) (L' := [some (.ref 48), some (.int (nI op)), some (.int 40), some (.int 0)]) (st' := [.int 33, .int 40]) (h' := kv_wd g w) rfl ?_
                    refine kx_st 1 (pc' := 88) (L' := [some (.ref 48), some (.int (nI op)), some (.int 40), some (.int 0)]) (st' := []) (h' := kv_wd g w) rfl ?_
                    refine kx_st 2 (pc' := 91) (L' := [some (.ref 48), some (.int (nI op)), some (.int 40), some (.int 0)]) (st' := [.int 40, .int 40]) (h' := kv_wd g w) rfl ?_
                    refine kx_st 1 (pc' := 94) (L' := [some (.ref 48), some (.int (nI op)), some (.int 40), some (.int 0)]) (st' := []) (h' := kv_wd g w) rfl ?_
                    refine kx_st 4 (pc' := 98) (L' := [some (.ref 48), some (.int (nI op)), some (.int 40), some (.int 0)]) (st' := [.int ((nI op) + 1), .ref 48]) (h' := kv_wd g w) rfl ?_
                    refine kx_call (z := 51) (as := [.ref 48, .int ((nI op) + 1)]) (rest := []) (v := some (.int 0)) (h1 := kv_wd g4 w) rfl (by rw [← nI_succ]; exact kx_ev_le (by omega) e4) ?_
                    refine kx_st 0 (pc' := 101) (L' := [some (.ref 48), some (.int (nI op)), some (.int 40), some (.int 0)]) (st' := [.int 0]) (h' := kv_wd g4 w) rfl ?_
                    refine kx_st 1 (pc' := 108) (L' := [some (.ref 48), some (.int (nI op)), some (.int 40), some (.int 0)]) (st' := []) (h' := kv_wd g4 w) rfl ?_
                    refine kx_st 1 (pc' := 109) (L' := [some (.ref 48), some (.int (nI op)), some (.int 40), some (.int 0)]) (st' := [.int 0]) (h' := kv_wd g4 w) rfl ?_
                    refine kx_ret (v := some (.int 0)) rfl ?_
                    exact ⟨rfl, _, rfl, r4⟩
                  · exact absurd (nI_lt (a := op) (b := 5) (by omega) (by omega)) h69
                · exact absurd h27 (by decide)
              · exact absurd (by rw [hs.2.1, hs.1]; exact nI_lt (a := a) (b := n) hlt (by omega)) h8)
            exact ⟨g', kx_ev_le (by omega) he, hh⟩
          · intro A B C
            obtain ⟨v, hv1, hv2⟩ := hpm A B C
            refine ⟨0, (fun z => nomatch z), ?_⟩
            intro E d g w hs
            have hbt : kx_bt tx n a = 40 := by rw [show kx_bt tx n a = tx a from if_pos hlt]; exact hx
            have hs2 : kx_RS tx n 1 (kv_up (kv_up g 65 10 (g 65 10 + 1)) 65 8 ((kv_up g 65 10 (g 65 10 + 1)) 65 8 + 1)) (a + 1) (op + 1) A B C := ⟨⟨hs.1.1, by show g 65 8 + 1 = _; rw [hs.1.2.1, nI_succ], hs.1.2.2.1, by show g 65 10 + 1 = _; rw [hs.1.2.2.2, nI_succ]⟩, hs.2.1, hs.2.2.1, hs.2.2.2⟩
            cases ok with
            | true =>
              have hne : ¬ kx_bt tx n a2 = 41 := fun z => hcl (kx_bt_41 z)
              obtain ⟨v0, hf, he, rfl, g', rfl, hh⟩ := kx_evP (E := E) (d := d + (6 * (5 - op) + 3)) (y := 160) (h := kv_wd g w) (as := [.ref 65]) (P := fun v0 h => v0 = (some (.int 0) : Option Value) ∧ ∃ g' : kv_S, h = kv_wd g' w ∧ kx_RG g g' a2 op false) (by decide) (Nat.le_of_ble_eq_true rfl) (by
                refine kx_st 0 (pc' := 0) (L' := [some (.ref 65), none, none]) (st' := []) (h' := kv_wd g w) rfl ?_
                refine kx_st 3 (pc' := 5) (L' := [some (.ref 65), none, none]) (st' := [.int (g 65 8), .ref 65]) (h' := kv_wd g w) rfl ?_
                refine kx_call (z := 155) (as := [.ref 65, .int (g 65 8)]) (rest := []) (v := some (.int 40)) (h1 := kv_wd g w) rfl (by rw [show g 65 8 = nI a from hs.1.2.1]; have z := ev_byteAt (E := E) (d := 0) (w := w) hs n50 (by omega) a (by omega); rw [hbt] at z; exact kx_ev_le (by omega) z) ?_
                refine kx_st 0 (pc' := 8) (L' := [some (.ref 65), none, none]) (st' := [.int 40]) (h' := kv_wd g w) rfl ?_
                refine kx_st 2 (pc' := 10) (L' := [some (.ref 65), some (.int 40), none]) (st' := [.int 40]) (h' := kv_wd g w) rfl ?_
                refine kx_call (z := 156) (as := [.int 40]) (rest := []) (v := some (.int (kx_b (48 ≤ (40 : Int32) ∧ (40 : Int32) ≤ 57)))) (h1 := kv_wd g w) rfl (kx_ev_le (d := 0 + 2) (by omega) (ev_isDigitM (d := 0) _)) ?_
                refine kx_st 0 (pc' := 13) (L' := [some (.ref 65), some (.int 40), none]) (st' := [.int (kx_b (48 ≤ (40 : Int32) ∧ (40 : Int32) ≤ 57))]) (h' := kv_wd g w) rfl ?_
                refine kx_be (t := 21) rfl rfl (fun (h13 : ¬ (48 ≤ (40 : Int32) ∧ (40 : Int32) ≤ 57)) => ?_) (fun (h13 : (48 ≤ (40 : Int32) ∧ (40 : Int32) ≤ 57)) => ?_)
                · refine kx_st 2 (pc' := 24) (L' := [some (.ref 65), some (.int 40), none]) (st' := [.int 33, .int 40]) (h' := kv_wd g w) rfl ?_
                  refine kx_st 1 (pc' := 27) (L' := [some (.ref 65), some (.int 40), none]) (st' := []) (h' := kv_wd g w) rfl ?_
                  refine kx_st 2 (pc' := 30) (L' := [some (.ref 65), some (.int 40), none]) (st' := [.int 40, .int 40]) (h' := kv_wd g w) rfl ?_
                  refine kx_st 1 (pc' := 39) (L' := [some (.ref 65), some (.int 40), none]) (st' := []) (h' := kv_wd g w) rfl ?_
                  refine kx_st 3 (pc' := 44) (L' := [some (.ref 65), some (.int 40), none]) (st' := [.int 5, .int (g 65 10)]) (h' := kv_wd g w) rfl ?_
                  refine kx_bi (t := 52) rfl rfl (fun (h44 : ¬ g 65 10 = 5) => ?_) (fun (h44 : ¬ (¬ g 65 10 = 5)) => ?_)
                  · refine kx_st 5 (pc' := 59) (L' := [some (.ref 65), some (.int 40), none]) (st' := [.int ((g 65 10) + 1), .ref 65]) (h' := kv_wd g w) rfl ?_
                    refine kx_pf (i := 140) (k := 10) (x := ((g 65 10) + 1)) rfl rfl (by decide) rfl (Nat.le_of_ble_eq_true rfl) rfl rfl rfl ?_
                    refine kx_st 5 (pc' := 69) (L' := [some (.ref 65), some (.int 40), none]) (st' := [.int (((kv_up g 65 10 ((g 65 10) + 1)) 65 8) + 1), .ref 65]) (h' := kv_wd (kv_up g 65 10 ((g 65 10) + 1)) w) rfl ?_
                    refine kx_pf (i := 113) (k := 8) (x := (((kv_up g 65 10 ((g 65 10) + 1)) 65 8) + 1)) rfl rfl (by decide) rfl (Nat.le_of_ble_eq_true rfl) rfl rfl rfl ?_
                    refine kx_st 2 (pc' := 75) (L' := [some (.ref 65), some (.int 40), none]) (st' := [.int 33, .int 40]) (h' := kv_wd (kv_up (kv_up g 65 10 ((g 65 10) + 1)) 65 8 (((kv_up g 65 10 ((g 65 10) + 1)) 65 8) + 1)) w) rfl ?_
                    refine kx_st 1 (pc' := 85) (L' := [some (.ref 65), some (.int 40), none]) (st' := []) (h' := kv_wd (kv_up (kv_up g 65 10 ((g 65 10) + 1)) 65 8 (((kv_up g 65 10 ((g 65 10) + 1)) 65 8) + 1)) w) rfl ?_
                    refine kx_st 1 (pc' := 86) (L' := [some (.ref 65), some (.int 40), none]) (st' := [.ref 65]) (h' := kv_wd (kv_up (kv_up g 65 10 ((g 65 10) + 1)) 65 8 (((kv_up g 65 10 ((g 65 10) + 1)) 65 8) + 1)) w) rfl ?_
                    obtain ⟨g3, e3, r3⟩ := hv2 E d _ w hs2
                    refine kx_call (z := 165) (as := [.ref 65]) (rest := []) (v := some (.int v)) (h1 := kv_wd g3 w) rfl (kx_ev_le (by omega) e3) ?_
                    refine kx_st 0 (pc' := 89) (L' := [some (.ref 65), some (.int 40), none]) (st' := [.int v]) (h' := kv_wd g3 w) rfl ?_
                    refine kx_st 6 (pc' := 97) (L' := [some (.ref 65), some (.int 40), some (.int v)]) (st' := [.int ((g3 65 10) - 1), .ref 65]) (h' := kv_wd g3 w) rfl ?_
                    refine kx_pf (i := 140) (k := 10) (x := ((g3 65 10) - 1)) rfl rfl (by decide) rfl (Nat.le_of_ble_eq_true rfl) rfl rfl rfl ?_
                    refine kx_st 2 (pc' := 103) (L' := [some (.ref 65), some (.int 40), some (.int v)]) (st' := [.int 33, .int 40]) (h' := kv_wd (kv_up g3 65 10 ((g3 65 10) - 1)) w) rfl ?_
                    refine kx_st 1 (pc' := 116) (L' := [some (.ref 65), some (.int 40), some (.int v)]) (st' := []) (h' := kv_wd (kv_up g3 65 10 ((g3 65 10) - 1)) w) rfl ?_
                    refine kx_st 2 (pc' := 120) (L' := [some (.ref 65), some (.int 40), some (.int v)]) (st' := [.int ((kv_up g3 65 10 ((g3 65 10) - 1)) 65 14)]) (h' := kv_wd (kv_up g3 65 10 ((g3 65 10) - 1)) w) rfl ?_
                    refine kx_bc (t := 148) rfl rfl (fun (h120 : (kv_up g3 65 10 ((g3 65 10) - 1)) 65 14 = 0) => ?_) (fun (h120 : ¬ ((kv_up g3 65 10 ((g3 65 10) - 1)) 65 14 = 0)) => ?_)
                    · exact absurd h120 (show ¬ g3 65 14 = 0 by rw [r3.2.2.2.1]; decide)
                    · refine kx_st 0 (pc' := 123) (L' := [some (.ref 65), some (.int 40), some (.int v)]) (st' := []) (h' := kv_wd (kv_up g3 65 10 ((g3 65 10) - 1)) w) rfl ?_
                      refine kx_st 3 (pc' := 128) (L' := [some (.ref 65), some (.int 40), some (.int v)]) (st' := [.int ((kv_up g3 65 10 ((g3 65 10) - 1)) 65 8), .ref 65]) (h' := kv_wd (kv_up g3 65 10 ((g3 65 10) - 1)) w) rfl ?_
                      have r5 := kx_RG_op (fun b hb => by rw [kv_up_ne hb, kv_up_ne hb]) (fun k k8 k10 => (show upd (upd (g 65) 10 _) 8 _ k = _ from (kx_upn k8).trans (kx_upn k10))) r3
                      refine kx_call (z := 155) (as := [.ref 65, .int ((kv_up g3 65 10 ((g3 65 10) - 1)) 65 8)]) (rest := []) (v := some (.int (kx_bt tx n a2))) (h1 := kv_wd (kv_up g3 65 10 ((g3 65 10) - 1)) w) rfl (by rw [show (kv_up g3 65 10 ((g3 65 10) - 1)) 65 8 = nI a2 from r3.2.1]; have z := ev_byteAt (E := E) (d := 0) (w := w) (kx_RS_of hs r5) n50 (by omega) a2 (by omega); exact kx_ev_le (by omega) z) ?_
                      refine kx_st 0 (pc' := 131) (L' := [some (.ref 65), some (.int 40), some (.int v)]) (st' := [.int (kx_bt tx n a2)]) (h' := kv_wd (kv_up g3 65 10 ((g3 65 10) - 1)) w) rfl ?_
                      refine kx_st 1 (pc' := 133) (L' := [some (.ref 65), some (.int 40), some (.int v)]) (st' := [.int 41, .int (kx_bt tx n a2)]) (h' := kv_wd (kv_up g3 65 10 ((g3 65 10) - 1)) w) rfl ?_
                      refine kx_bi (t := 148) rfl rfl (fun (h133 : ¬ kx_bt tx n a2 = 41) => ?_) (fun (h133 : ¬ (¬ kx_bt tx n a2 = 41)) => ?_)
                      · refine kx_st 1 (pc' := 149) (L' := [some (.ref 65), some (.int 40), some (.int v)]) (st' := [.ref 65]) (h' := kv_wd (kv_up g3 65 10 ((g3 65 10) - 1)) w) rfl ?_
                        refine kx_call (z := 157) (as := [.ref 65]) (rest := []) (v := some (.int 0)) (h1 := kv_wd (kv_up (kv_up g3 65 10 ((g3 65 10) - 1)) 65 14 0) w) rfl (kx_ev_le (d := 0 + 1) (by omega) (ev_fails (d := 0))) ?_
                        refine kx_st 0 (pc' := 152) (L' := [some (.ref 65), some (.int 40), some (.int v)]) (st' := [.int 0]) (h' := kv_wd (kv_up (kv_up g3 65 10 ((g3 65 10) - 1)) 65 14 0) w) rfl ?_
                        refine kx_ret (v := some (.int 0)) rfl ?_
                        have r6 := kx_RG_op (fun b hb => by rw [kv_up_ne hb, kv_up_ne hb]) (fun k k8 k10 => (show upd (upd (g 65) 10 _) 8 _ k = _ from (kx_upn k8).trans (kx_upn k10))) r3
                        exact ⟨rfl, _, rfl, kx_RG_t r6 (kx_RG_f r6.2.1 r6.2.2.1)⟩
                      · exact absurd (Classical.not_not.mp h133) hne
                  · exact absurd (Classical.not_not.mp h44) (by rw [hs.1.2.2.2]; exact kx_ne_nI (a := op) (b := 5) (by omega) (by omega) hop)
                · exact absurd h13 (by decide))
              exact ⟨g', kx_ev_le (by omega) he, hh⟩
            | false =>
              obtain ⟨v0, hf, he, rfl, g', rfl, hh⟩ := kx_evP (E := E) (d := d + (6 * (5 - op) + 3)) (y := 160) (h := kv_wd g w) (as := [.ref 65]) (P := fun v0 h => v0 = (some (.int 0) : Option Value) ∧ ∃ g' : kv_S, h = kv_wd g' w ∧ kx_RG g g' a2 op false) (by decide) (Nat.le_of_ble_eq_true rfl) (by
                refine kx_st 0 (pc' := 0) (L' := [some (.ref 65), none, none]) (st' := []) (h' := kv_wd g w) rfl ?_
                refine kx_st 3 (pc' := 5) (L' := [some (.ref 65), none, none]) (st' := [.int (g 65 8), .ref 65]) (h' := kv_wd g w) rfl ?_
                refine kx_call (z := 155) (as := [.ref 65, .int (g 65 8)]) (rest := []) (v := some (.int 40)) (h1 := kv_wd g w) rfl (by rw [show g 65 8 = nI a from hs.1.2.1]; have z := ev_byteAt (E := E) (d := 0) (w := w) hs n50 (by omega) a (by omega); rw [hbt] at z; exact kx_ev_le (by omega) z) ?_
                refine kx_st 0 (pc' := 8) (L' := [some (.ref 65), none, none]) (st' := [.int 40]) (h' := kv_wd g w) rfl ?_
                refine kx_st 2 (pc' := 10) (L' := [some (.ref 65), some (.int 40), none]) (st' := [.int 40]) (h' := kv_wd g w) rfl ?_
                refine kx_call (z := 156) (as := [.int 40]) (rest := []) (v := some (.int (kx_b (48 ≤ (40 : Int32) ∧ (40 : Int32) ≤ 57)))) (h1 := kv_wd g w) rfl (kx_ev_le (d := 0 + 2) (by omega) (ev_isDigitM (d := 0) _)) ?_
                refine kx_st 0 (pc' := 13) (L' := [some (.ref 65), some (.int 40), none]) (st' := [.int (kx_b (48 ≤ (40 : Int32) ∧ (40 : Int32) ≤ 57))]) (h' := kv_wd g w) rfl ?_
                refine kx_be (t := 21) rfl rfl (fun (h13 : ¬ (48 ≤ (40 : Int32) ∧ (40 : Int32) ≤ 57)) => ?_) (fun (h13 : (48 ≤ (40 : Int32) ∧ (40 : Int32) ≤ 57)) => ?_)
                · refine kx_st 2 (pc' := 24) (L' := [some (.ref 65), some (.int 40), none]) (st' := [.int 33, .int 40]) (h' := kv_wd g w) rfl ?_
                  refine kx_st 1 (pc' := 27) (L' := [some (.ref 65), some (.int 40), none]) (st' := []) (h' := kv_wd g w) rfl ?_
                  refine kx_st 2 (pc' := 30) (L' := [some (.ref 65), some (.int 40), none]) (st' := [.int 40, .int 40]) (h' := kv_wd g w) rfl ?_
                  refine kx_st 1 (pc' := 39) (L' := [some (.ref 65), some (.int 40), none]) (st' := []) (h' := kv_wd g w) rfl ?_
                  refine kx_st 3 (pc' := 44) (L' := [some (.ref 65), some (.int 40), none]) (st' := [.int 5, .int (g 65 10)]) (h' := kv_wd g w) rfl ?_
                  refine kx_bi (t := 52) rfl rfl (fun (h44 : ¬ g 65 10 = 5) => ?_) (fun (h44 : ¬ (¬ g 65 10 = 5)) => ?_)
                  · refine kx_st 5 (pc' := 59) (L' := [some (.ref 65), some (.int 40), none]) (st' := [.int ((g 65 10) + 1), .ref 65]) (h' := kv_wd g w) rfl ?_
                    refine kx_pf (i := 140) (k := 10) (x := ((g 65 10) + 1)) rfl rfl (by decide) rfl (Nat.le_of_ble_eq_true rfl) rfl rfl rfl ?_
                    refine kx_st 5 (pc' := 69) (L' := [some (.ref 65), some (.int 40), none]) (st' := [.int (((kv_up g 65 10 ((g 65 10) + 1)) 65 8) + 1), .ref 65]) (h' := kv_wd (kv_up g 65 10 ((g 65 10) + 1)) w) rfl ?_
                    refine kx_pf (i := 113) (k := 8) (x := (((kv_up g 65 10 ((g 65 10) + 1)) 65 8) + 1)) rfl rfl (by decide) rfl (Nat.le_of_ble_eq_true rfl) rfl rfl rfl ?_
                    refine kx_st 2 (pc' := 75) (L' := [some (.ref 65), some (.int 40), none]) (st' := [.int 33, .int 40]) (h' := kv_wd (kv_up (kv_up g 65 10 ((g 65 10) + 1)) 65 8 (((kv_up g 65 10 ((g 65 10) + 1)) 65 8) + 1)) w) rfl ?_
                    refine kx_st 1 (pc' := 85) (L' := [some (.ref 65), some (.int 40), none]) (st' := []) (h' := kv_wd (kv_up (kv_up g 65 10 ((g 65 10) + 1)) 65 8 (((kv_up g 65 10 ((g 65 10) + 1)) 65 8) + 1)) w) rfl ?_
                    refine kx_st 1 (pc' := 86) (L' := [some (.ref 65), some (.int 40), none]) (st' := [.ref 65]) (h' := kv_wd (kv_up (kv_up g 65 10 ((g 65 10) + 1)) 65 8 (((kv_up g 65 10 ((g 65 10) + 1)) 65 8) + 1)) w) rfl ?_
                    obtain ⟨g3, e3, r3⟩ := hv2 E d _ w hs2
                    refine kx_call (z := 165) (as := [.ref 65]) (rest := []) (v := some (.int v)) (h1 := kv_wd g3 w) rfl (kx_ev_le (by omega) e3) ?_
                    refine kx_st 0 (pc' := 89) (L' := [some (.ref 65), some (.int 40), none]) (st' := [.int v]) (h' := kv_wd g3 w) rfl ?_
                    refine kx_st 6 (pc' := 97) (L' := [some (.ref 65), some (.int 40), some (.int v)]) (st' := [.int ((g3 65 10) - 1), .ref 65]) (h' := kv_wd g3 w) rfl ?_
                    refine kx_pf (i := 140) (k := 10) (x := ((g3 65 10) - 1)) rfl rfl (by decide) rfl (Nat.le_of_ble_eq_true rfl) rfl rfl rfl ?_
                    refine kx_st 2 (pc' := 103) (L' := [some (.ref 65), some (.int 40), some (.int v)]) (st' := [.int 33, .int 40]) (h' := kv_wd (kv_up g3 65 10 ((g3 65 10) - 1)) w) rfl ?_
                    refine kx_st 1 (pc' := 116) (L' := [some (.ref 65), some (.int 40), some (.int v)]) (st' := []) (h' := kv_wd (kv_up g3 65 10 ((g3 65 10) - 1)) w) rfl ?_
                    refine kx_st 2 (pc' := 120) (L' := [some (.ref 65), some (.int 40), some (.int v)]) (st' := [.int ((kv_up g3 65 10 ((g3 65 10) - 1)) 65 14)]) (h' := kv_wd (kv_up g3 65 10 ((g3 65 10) - 1)) w) rfl ?_
                    refine kx_bc (t := 148) rfl rfl (fun (h120 : (kv_up g3 65 10 ((g3 65 10) - 1)) 65 14 = 0) => ?_) (fun (h120 : ¬ ((kv_up g3 65 10 ((g3 65 10) - 1)) 65 14 = 0)) => ?_)
                    · refine kx_st 1 (pc' := 149) (L' := [some (.ref 65), some (.int 40), some (.int v)]) (st' := [.ref 65]) (h' := kv_wd (kv_up g3 65 10 ((g3 65 10) - 1)) w) rfl ?_
                      refine kx_call (z := 157) (as := [.ref 65]) (rest := []) (v := some (.int 0)) (h1 := kv_wd (kv_up (kv_up g3 65 10 ((g3 65 10) - 1)) 65 14 0) w) rfl (kx_ev_le (d := 0 + 1) (by omega) (ev_fails (d := 0))) ?_
                      refine kx_st 0 (pc' := 152) (L' := [some (.ref 65), some (.int 40), some (.int v)]) (st' := [.int 0]) (h' := kv_wd (kv_up (kv_up g3 65 10 ((g3 65 10) - 1)) 65 14 0) w) rfl ?_
                      refine kx_ret (v := some (.int 0)) rfl ?_
                      have r6 := kx_RG_op (fun b hb => by rw [kv_up_ne hb, kv_up_ne hb]) (fun k k8 k10 => (show upd (upd (g 65) 10 _) 8 _ k = _ from (kx_upn k8).trans (kx_upn k10))) r3
                      exact ⟨rfl, _, rfl, kx_RG_t r6 (kx_RG_f r6.2.1 r6.2.2.1)⟩
                    · exact absurd (show g3 65 14 = 0 by rw [r3.2.2.2.1]; rfl) h120
                  · exact absurd (Classical.not_not.mp h44) (by rw [hs.1.2.2.2]; exact kx_ne_nI (a := op) (b := 5) (by omega) (by omega) hop)
                · exact absurd h13 (by decide))
              exact ⟨g', kx_ev_le (by omega) he, hh⟩
    refine ⟨false, a, [], ⟨⟨Nat.le_refl _, han⟩, fun z => by cases z⟩, ?_, ?_⟩
    · intro E d g w ln hE hs hln
      obtain ⟨v0, hf, he, rfl, g', rfl, hh⟩ := kx_evP (E := E) (d := d + (8 * (5 - op) + 2)) (y := 49) (h := kv_wd g w) (as := [.ref 48, .int (nI op)]) (P := fun v0 h => v0 = (some (.int 0) : Option Value) ∧ ∃ g' : kv_S, h = kv_wd g' w ∧ kx_CR g g' a false ln []) (by decide) (Nat.le_of_ble_eq_true rfl) (by
        refine kx_st 0 (pc' := 0) (L' := [some (.ref 48), some (.int (nI op)), none, none]) (st' := []) (h' := kv_wd g w) rfl ?_
        refine kx_st 4 (pc' := 8) (L' := [some (.ref 48), some (.int (nI op)), none, none]) (st' := [.int (g 48 2), .int (g 48 3)]) (h' := kv_wd g w) rfl ?_
        refine kx_bi (t := 13) rfl rfl (fun (h8 : g 48 3 < g 48 2) => ?_) (fun (h8 : ¬ (g 48 3 < g 48 2)) => ?_)
        · refine kx_st 4 (pc' := 21) (L' := [some (.ref 48), some (.int (nI op)), none, none]) (st' := [.int (g 48 3), .ref 52]) (h' := kv_wd g w) rfl ?_
          refine kx_ia (k := a) rfl rfl (by decide) hs.2.1 (by omega) (by decide) ?_
          refine kx_st 1 (pc' := 23) (L' := [some (.ref 48), some (.int (nI op)), some (.int (g 52 a)), none]) (st' := []) (h' := kv_wd g w) rfl ?_
          rw [hs.2.2.2.1 a hlt]
          refine kx_st 1 (pc' := 24) (L' := [some (.ref 48), some (.int (nI op)), some (.int (tx a)), none]) (st' := [.int (tx a)]) (h' := kv_wd g w) rfl ?_
          refine kx_call (z := 53) (as := [.int (tx a)]) (rest := []) (v := some (.int (kx_b (48 ≤ tx a ∧ tx a ≤ 57)))) (h1 := kv_wd g w) rfl (kx_ev_le (d := 0 + 1) (by omega) (ev_isDigitX (d := 0) _)) ?_
          refine kx_st 0 (pc' := 27) (L' := [some (.ref 48), some (.int (nI op)), some (.int (tx a)), none]) (st' := [.int (kx_b (48 ≤ tx a ∧ tx a ≤ 57))]) (h' := kv_wd g w) rfl ?_
          refine kx_be (t := 36) rfl rfl (fun (h27 : ¬ (48 ≤ tx a ∧ tx a ≤ 57)) => ?_) (fun (h27 : (48 ≤ tx a ∧ tx a ≤ 57)) => ?_)
          · refine kx_st 2 (pc' := 38) (L' := [some (.ref 48), some (.int (nI op)), some (.int (tx a)), none]) (st' := [.int (tx a), .ref 48]) (h' := kv_wd g w) rfl ?_
            refine kx_call (z := 54) (as := [.ref 48, .int (tx a)]) (rest := []) (v := some (.int 0)) (h1 := kv_wd g w) rfl (kx_ev_le (d := 0 + 1) (by omega) (ev_nm_1_n (d := 0) hE hs.2.2.1 (tx a) ⟨hn1, hn2, hn3⟩)) ?_
            refine kx_st 0 (pc' := 41) (L' := [some (.ref 48), some (.int (nI op)), some (.int (tx a)), none]) (st' := [.int 0]) (h' := kv_wd g w) rfl ?_
            refine kx_st 2 (pc' := 43) (L' := [some (.ref 48), some (.int (nI op)), some (.int (tx a)), some (.int 0)]) (st' := [.int 0]) (h' := kv_wd g w) rfl ?_
            refine kx_st 1 (pc' := 67) (L' := [some (.ref 48), some (.int (nI op)), some (.int (tx a)), some (.int 0)]) (st' := []) (h' := kv_wd g w) rfl ?_
            refine kx_st 2 (pc' := 69) (L' := [some (.ref 48), some (.int (nI op)), some (.int (tx a)), some (.int 0)]) (st' := [.int 5, .int (nI op)]) (h' := kv_wd g w) rfl ?_
            refine kx_bi (t := 74) rfl rfl (fun (h69 : nI op < 5) => ?_) (fun (h69 : ¬ (nI op < 5)) => ?_)
            · refine kx_st 2 (pc' := 77) (L' := [some (.ref 48), some (.int (nI op)), some (.int (tx a)), some (.int 0)]) (st' := [.int 33, .int (tx a)]) (h' := kv_wd g w) rfl ?_
              refine kx_bi (t := 88) rfl rfl (fun (h77 : ¬ tx a = 33) => ?_) (fun (h77 : ¬ (¬ tx a = 33)) => ?_)
              · refine kx_st 2 (pc' := 91) (L' := [some (.ref 48), some (.int (nI op)), some (.int (tx a)), some (.int 0)]) (st' := [.int 40, .int (tx a)]) (h' := kv_wd g w) rfl ?_
                refine kx_bi (t := 108) rfl rfl (fun (h91 : ¬ tx a = 40) => ?_) (fun (h91 : ¬ (¬ tx a = 40)) => ?_)
                · refine kx_st 1 (pc' := 109) (L' := [some (.ref 48), some (.int (nI op)), some (.int (tx a)), some (.int 0)]) (st' := [.int 0]) (h' := kv_wd g w) rfl ?_
                  refine kx_ret (v := some (.int 0)) rfl ?_
                  exact ⟨rfl, _, rfl, kx_CR_0 hs false⟩
                · exact absurd (Classical.not_not.mp h91) h40
              · exact absurd (Classical.not_not.mp h77) h33
            · refine kx_st 0 (pc' := 72) (L' := [some (.ref 48), some (.int (nI op)), some (.int (tx a)), some (.int 0)]) (st' := []) (h' := kv_wd g w) rfl ?_
              refine kx_st 1 (pc' := 73) (L' := [some (.ref 48), some (.int (nI op)), some (.int (tx a)), some (.int 0)]) (st' := [.int 0]) (h' := kv_wd g w) rfl ?_
              refine kx_ret (v := some (.int 0)) rfl ?_
              exact ⟨rfl, _, rfl, kx_CR_0 hs false⟩
          · exact absurd h27 hdg
        · exact absurd (by rw [hs.2.1, hs.1]; exact nI_lt (a := a) (b := n) hlt (by omega)) h8)
      exact ⟨g', kx_ev_le (by omega) he, hh⟩
    · intro A B C
      refine ⟨0, (fun z => nomatch z), ?_⟩
      intro E d g w hs
      have hbt : kx_bt tx n a = tx a := if_pos hlt
      obtain ⟨v0, hf, he, rfl, g', rfl, hh⟩ := kx_evP (E := E) (d := d + (6 * (5 - op) + 3)) (y := 160) (h := kv_wd g w) (as := [.ref 65]) (P := fun v0 h => v0 = (some (.int 0) : Option Value) ∧ ∃ g' : kv_S, h = kv_wd g' w ∧ kx_RG g g' a op false) (by decide) (Nat.le_of_ble_eq_true rfl) (by
        refine kx_st 0 (pc' := 0) (L' := [some (.ref 65), none, none]) (st' := []) (h' := kv_wd g w) rfl ?_
        refine kx_st 3 (pc' := 5) (L' := [some (.ref 65), none, none]) (st' := [.int (g 65 8), .ref 65]) (h' := kv_wd g w) rfl ?_
        refine kx_call (z := 155) (as := [.ref 65, .int (g 65 8)]) (rest := []) (v := some (.int (tx a))) (h1 := kv_wd g w) rfl (by rw [show g 65 8 = nI a from hs.1.2.1]; have z := ev_byteAt (E := E) (d := 0) (w := w) hs n50 (by omega) a (by omega); rw [hbt] at z; exact kx_ev_le (by omega) z) ?_
        refine kx_st 0 (pc' := 8) (L' := [some (.ref 65), none, none]) (st' := [.int (tx a)]) (h' := kv_wd g w) rfl ?_
        refine kx_st 2 (pc' := 10) (L' := [some (.ref 65), some (.int (tx a)), none]) (st' := [.int (tx a)]) (h' := kv_wd g w) rfl ?_
        refine kx_call (z := 156) (as := [.int (tx a)]) (rest := []) (v := some (.int (kx_b (48 ≤ tx a ∧ tx a ≤ 57)))) (h1 := kv_wd g w) rfl (kx_ev_le (d := 0 + 2) (by omega) (ev_isDigitM (d := 0) _)) ?_
        refine kx_st 0 (pc' := 13) (L' := [some (.ref 65), some (.int (tx a)), none]) (st' := [.int (kx_b (48 ≤ tx a ∧ tx a ≤ 57))]) (h' := kv_wd g w) rfl ?_
        refine kx_be (t := 21) rfl rfl (fun (h13 : ¬ (48 ≤ tx a ∧ tx a ≤ 57)) => ?_) (fun (h13 : (48 ≤ tx a ∧ tx a ≤ 57)) => ?_)
        · refine kx_st 2 (pc' := 24) (L' := [some (.ref 65), some (.int (tx a)), none]) (st' := [.int 33, .int (tx a)]) (h' := kv_wd g w) rfl ?_
          refine kx_bi (t := 39) rfl rfl (fun (h24 : tx a = 33) => ?_) (fun (h24 : ¬ (tx a = 33)) => ?_)
          · exact absurd h24 h33
          · refine kx_st 0 (pc' := 27) (L' := [some (.ref 65), some (.int (tx a)), none]) (st' := []) (h' := kv_wd g w) rfl ?_
            refine kx_st 2 (pc' := 30) (L' := [some (.ref 65), some (.int (tx a)), none]) (st' := [.int 40, .int (tx a)]) (h' := kv_wd g w) rfl ?_
            refine kx_bi (t := 39) rfl rfl (fun (h30 : tx a = 40) => ?_) (fun (h30 : ¬ (tx a = 40)) => ?_)
            · exact absurd h30 h40
            · refine kx_st 0 (pc' := 33) (L' := [some (.ref 65), some (.int (tx a)), none]) (st' := []) (h' := kv_wd g w) rfl ?_
              refine kx_st 2 (pc' := 35) (L' := [some (.ref 65), some (.int (tx a)), none]) (st' := [.int (tx a), .ref 65]) (h' := kv_wd g w) rfl ?_
              refine kx_call (z := 159) (as := [.ref 65, .int (tx a)]) (rest := []) (v := some (.int 0)) (h1 := kv_wd (kv_up g 65 14 0) w) rfl (kx_ev_le (d := 0 + 2) (by omega) (ev_named_1_n (d := 0) hs (tx a) ⟨hn1, hn2, hn3⟩)) ?_
              refine kx_st 0 (pc' := 38) (L' := [some (.ref 65), some (.int (tx a)), none]) (st' := [.int 0]) (h' := kv_wd (kv_up g 65 14 0) w) rfl ?_
              refine kx_ret (v := some (.int 0)) rfl ?_
              exact ⟨rfl, _, rfl, kx_RG_f hs.1.2.1 hs.1.2.2.2⟩
        · exact absurd h13 hdg)
      exact ⟨g', kx_ev_le (by omega) he, hh⟩
  · refine ⟨false, a, [], ⟨⟨Nat.le_refl _, han⟩, fun z => by cases z⟩, ?_, ?_⟩
    · intro E d g w ln hE hs hln
      obtain ⟨v0, hf, he, rfl, g', rfl, hh⟩ := kx_evP (E := E) (d := d + (8 * (5 - op) + 2)) (y := 49) (h := kv_wd g w) (as := [.ref 48, .int (nI op)]) (P := fun v0 h => v0 = (some (.int 0) : Option Value) ∧ ∃ g' : kv_S, h = kv_wd g' w ∧ kx_CR g g' a false ln []) (by decide) (Nat.le_of_ble_eq_true rfl) (by
        refine kx_st 0 (pc' := 0) (L' := [some (.ref 48), some (.int (nI op)), none, none]) (st' := []) (h' := kv_wd g w) rfl ?_
        refine kx_st 4 (pc' := 8) (L' := [some (.ref 48), some (.int (nI op)), none, none]) (st' := [.int (g 48 2), .int (g 48 3)]) (h' := kv_wd g w) rfl ?_
        refine kx_bi (t := 13) rfl rfl (fun (h8 : g 48 3 < g 48 2) => ?_) (fun (h8 : ¬ (g 48 3 < g 48 2)) => ?_)
        · exact absurd h8 (by rw [hs.2.1, hs.1]; exact nI_nlt (by omega) (by omega))
        · refine kx_st 0 (pc' := 11) (L' := [some (.ref 48), some (.int (nI op)), none, none]) (st' := []) (h' := kv_wd g w) rfl ?_
          refine kx_st 1 (pc' := 12) (L' := [some (.ref 48), some (.int (nI op)), none, none]) (st' := [.int 0]) (h' := kv_wd g w) rfl ?_
          refine kx_ret (v := some (.int 0)) rfl ?_
          exact ⟨rfl, _, rfl, kx_CR_0 hs false⟩)
      exact ⟨g', kx_ev_le (by omega) he, hh⟩
    · intro A B C
      refine ⟨0, (fun z => nomatch z), ?_⟩
      intro E d g w hs
      have hbt : kx_bt tx n a = -1 := if_neg hlt
      obtain ⟨v0, hf, he, rfl, g', rfl, hh⟩ := kx_evP (E := E) (d := d + (6 * (5 - op) + 3)) (y := 160) (h := kv_wd g w) (as := [.ref 65]) (P := fun v0 h => v0 = (some (.int 0) : Option Value) ∧ ∃ g' : kv_S, h = kv_wd g' w ∧ kx_RG g g' a op false) (by decide) (Nat.le_of_ble_eq_true rfl) (by
        refine kx_st 0 (pc' := 0) (L' := [some (.ref 65), none, none]) (st' := []) (h' := kv_wd g w) rfl ?_
        refine kx_st 3 (pc' := 5) (L' := [some (.ref 65), none, none]) (st' := [.int (g 65 8), .ref 65]) (h' := kv_wd g w) rfl ?_
        refine kx_call (z := 155) (as := [.ref 65, .int (g 65 8)]) (rest := []) (v := some (.int (-1))) (h1 := kv_wd g w) rfl (by rw [show g 65 8 = nI a from hs.1.2.1]; have z := ev_byteAt (E := E) (d := 0) (w := w) hs n50 (by omega) a (by omega); rw [hbt] at z; exact kx_ev_le (by omega) z) ?_
        refine kx_st 0 (pc' := 8) (L' := [some (.ref 65), none, none]) (st' := [.int (-1)]) (h' := kv_wd g w) rfl ?_
        refine kx_st 2 (pc' := 10) (L' := [some (.ref 65), some (.int (-1)), none]) (st' := [.int (-1)]) (h' := kv_wd g w) rfl ?_
        refine kx_call (z := 156) (as := [.int (-1)]) (rest := []) (v := some (.int (kx_b (48 ≤ ((-1) : Int32) ∧ ((-1) : Int32) ≤ 57)))) (h1 := kv_wd g w) rfl (kx_ev_le (d := 0 + 2) (by omega) (ev_isDigitM (d := 0) _)) ?_
        refine kx_st 0 (pc' := 13) (L' := [some (.ref 65), some (.int (-1)), none]) (st' := [.int (kx_b (48 ≤ ((-1) : Int32) ∧ ((-1) : Int32) ≤ 57))]) (h' := kv_wd g w) rfl ?_
        refine kx_be (t := 21) rfl rfl (fun (h13 : ¬ (48 ≤ ((-1) : Int32) ∧ ((-1) : Int32) ≤ 57)) => ?_) (fun (h13 : (48 ≤ ((-1) : Int32) ∧ ((-1) : Int32) ≤ 57)) => ?_)
        · refine kx_st 2 (pc' := 24) (L' := [some (.ref 65), some (.int (-1)), none]) (st' := [.int 33, .int (-1)]) (h' := kv_wd g w) rfl ?_
          refine kx_st 1 (pc' := 27) (L' := [some (.ref 65), some (.int (-1)), none]) (st' := []) (h' := kv_wd g w) rfl ?_
          refine kx_st 2 (pc' := 30) (L' := [some (.ref 65), some (.int (-1)), none]) (st' := [.int 40, .int (-1)]) (h' := kv_wd g w) rfl ?_
          refine kx_st 1 (pc' := 33) (L' := [some (.ref 65), some (.int (-1)), none]) (st' := []) (h' := kv_wd g w) rfl ?_
          refine kx_st 2 (pc' := 35) (L' := [some (.ref 65), some (.int (-1)), none]) (st' := [.int (-1), .ref 65]) (h' := kv_wd g w) rfl ?_
          refine kx_call (z := 159) (as := [.ref 65, .int (-1)]) (rest := []) (v := some (.int 0)) (h1 := kv_wd (kv_up g 65 14 0) w) rfl (kx_ev_le (d := 0 + 2) (by omega) (ev_named_1_n (d := 0) hs (-1) ⟨by decide, by decide, by decide⟩)) ?_
          refine kx_st 0 (pc' := 38) (L' := [some (.ref 65), some (.int (-1)), none]) (st' := [.int 0]) (h' := kv_wd (kv_up g 65 14 0) w) rfl ?_
          refine kx_ret (v := some (.int 0)) rfl ?_
          exact ⟨rfl, _, rfl, kx_RG_f hs.1.2.1 hs.1.2.2.2⟩
        · exact absurd h13 (by decide))
      exact ⟨g', kx_ev_le (by omega) he, hh⟩
