/-! THE CELLS of class (0 to 64) and reference (65 to 75), by handle; g: what their ints are, w: the long row, the rows of references -/
abbrev kv_W : Type := (Nat → Int64) × (Nat → Nat → Option Nat)
def kv_cr (a : Nat) (r : Nat → Int32) (w : kv_W) : kv_E := match a with
  | 0 => .inr (8, [.ref 1, .ref 22, .int (r 2), .ref 43, .ref 48, .ref 53, .ref 55, .ref 64])
  | 1 => .inr (1, [.int (r 0), .int (r 1), .ref 2, .ref 5, .int (r 4), .ref 6, .ref 9, .ref 12, .int (r 8), .ref 13, .int (r 10), .int (r 11)])
  | 2 => .inr (0, [.ref 3, .ref 4, .int (r 2)])
  | 3 => .inl (0, 6, .inl r)
  | 4 => .inl (0, 6, .inl r)
  | 5 => .inl (2, 8, .inr (.inr (.inr (.inr (w.2 5)))))
  | 6 => .inr (3, [.int (r 0), .ref 7, .int (r 2), .ref 8])
  | 7 => .inl (0, 50, .inl r)
  | 8 => .inl (0, 25, .inl r)
  | 9 => .inr (3, [.int (r 0), .ref 10, .int (r 2), .ref 11])
  | 10 => .inl (0, 50, .inl r)
  | 11 => .inl (0, 25, .inl r)
  | 12 => .inl (0, 50, .inl r)
  | 13 => .inl (0, 20, .inl r)
  | 14 => .inr (2, [.int (r 0), .int (r 1), .int (r 2), .int (r 3), .int (r 4), .int (r 5), .int (r 6), .int (r 7), .int (r 8)])
  | 15 => .inr (2, [.int (r 0), .int (r 1), .int (r 2), .int (r 3), .int (r 4), .int (r 5), .int (r 6), .int (r 7), .int (r 8)])
  | 16 => .inr (2, [.int (r 0), .int (r 1), .int (r 2), .int (r 3), .int (r 4), .int (r 5), .int (r 6), .int (r 7), .int (r 8)])
  | 17 => .inr (2, [.int (r 0), .int (r 1), .int (r 2), .int (r 3), .int (r 4), .int (r 5), .int (r 6), .int (r 7), .int (r 8)])
  | 18 => .inr (2, [.int (r 0), .int (r 1), .int (r 2), .int (r 3), .int (r 4), .int (r 5), .int (r 6), .int (r 7), .int (r 8)])
  | 19 => .inr (2, [.int (r 0), .int (r 1), .int (r 2), .int (r 3), .int (r 4), .int (r 5), .int (r 6), .int (r 7), .int (r 8)])
  | 20 => .inr (2, [.int (r 0), .int (r 1), .int (r 2), .int (r 3), .int (r 4), .int (r 5), .int (r 6), .int (r 7), .int (r 8)])
  | 21 => .inr (2, [.int (r 0), .int (r 1), .int (r 2), .int (r 3), .int (r 4), .int (r 5), .int (r 6), .int (r 7), .int (r 8)])
  | 22 => .inr (1, [.int (r 0), .int (r 1), .ref 23, .ref 26, .int (r 4), .ref 27, .ref 30, .ref 33, .int (r 8), .ref 34, .int (r 10), .int (r 11)])
  | 23 => .inr (0, [.ref 24, .ref 25, .int (r 2)])
  | 24 => .inl (0, 6, .inl r)
  | 25 => .inl (0, 6, .inl r)
  | 26 => .inl (2, 8, .inr (.inr (.inr (.inr (w.2 26)))))
  | 27 => .inr (3, [.int (r 0), .ref 28, .int (r 2), .ref 29])
  | 28 => .inl (0, 50, .inl r)
  | 29 => .inl (0, 25, .inl r)
  | 30 => .inr (3, [.int (r 0), .ref 31, .int (r 2), .ref 32])
  | 31 => .inl (0, 50, .inl r)
  | 32 => .inl (0, 25, .inl r)
  | 33 => .inl (0, 50, .inl r)
  | 34 => .inl (0, 20, .inl r)
  | 35 => .inr (2, [.int (r 0), .int (r 1), .int (r 2), .int (r 3), .int (r 4), .int (r 5), .int (r 6), .int (r 7), .int (r 8)])
  | 36 => .inr (2, [.int (r 0), .int (r 1), .int (r 2), .int (r 3), .int (r 4), .int (r 5), .int (r 6), .int (r 7), .int (r 8)])
  | 37 => .inr (2, [.int (r 0), .int (r 1), .int (r 2), .int (r 3), .int (r 4), .int (r 5), .int (r 6), .int (r 7), .int (r 8)])
  | 38 => .inr (2, [.int (r 0), .int (r 1), .int (r 2), .int (r 3), .int (r 4), .int (r 5), .int (r 6), .int (r 7), .int (r 8)])
  | 39 => .inr (2, [.int (r 0), .int (r 1), .int (r 2), .int (r 3), .int (r 4), .int (r 5), .int (r 6), .int (r 7), .int (r 8)])
  | 40 => .inr (2, [.int (r 0), .int (r 1), .int (r 2), .int (r 3), .int (r 4), .int (r 5), .int (r 6), .int (r 7), .int (r 8)])
  | 41 => .inr (2, [.int (r 0), .int (r 1), .int (r 2), .int (r 3), .int (r 4), .int (r 5), .int (r 6), .int (r 7), .int (r 8)])
  | 42 => .inr (2, [.int (r 0), .int (r 1), .int (r 2), .int (r 3), .int (r 4), .int (r 5), .int (r 6), .int (r 7), .int (r 8)])
  | 43 => .inr (6, [.ref 44, .ref 47])
  | 44 => .inr (0, [.ref 45, .ref 46, .int (r 2)])
  | 45 => .inl (0, 6, .inl r)
  | 46 => .inl (0, 6, .inl r)
  | 47 => .inl (1, 8, .inr (.inl w.1))
  | 48 => .inr (4, [.ref 49, .ref 52, .int (r 2), .int (r 3), .int (r 4)])
  | 49 => .inr (3, [.int (r 0), .ref 50, .int (r 2), .ref 51])
  | 50 => .inl (0, 50, .inl r)
  | 51 => .inl (0, 25, .inl r)
  | 52 => .inl (0, 50, .inl r)
  | 53 => .inr (7, [.ref 54, .int (r 1), .int (r 2), .int (r 3), .int (r 4)])
  | 54 => .inl (0, 40, .inl r)
  | 55 => .inl (3, 4, .inr (.inr (.inr (.inr (w.2 55)))))
  | 56 => .inr (5, [.int (r 0), .int (r 1), .ref 57])
  | 57 => .inl (0, 40, .inl r)
  | 58 => .inr (5, [.int (r 0), .int (r 1), .ref 59])
  | 59 => .inl (0, 40, .inl r)
  | 60 => .inr (5, [.int (r 0), .int (r 1), .ref 61])
  | 61 => .inl (0, 40, .inl r)
  | 62 => .inr (5, [.int (r 0), .int (r 1), .ref 63])
  | 63 => .inl (0, 40, .inl r)
  | 64 => .inl (0, 6, .inl r)
  | 65 => .inr (9, [.ref 66, .ref 67, .ref 68, .ref 69, .int (r 4), .int (r 5), .ref 70, .int (r 7), .int (r 8), .int (r 9), .int (r 10), .int (r 11), .int (r 12), .int (r 13), .int (r 14), .ref 71, .ref 72, .ref 73, .ref 74, .ref 75, .int (r 20), .int (r 21), .int (r 22), .int (r 23)])
  | 66 => .inl (0, 268, .inl r)
  | 67 => .inl (0, 268, .inl r)
  | 68 => .inl (0, 268, .inl r)
  | 69 => .inl (0, 268, .inl r)
  | 70 => .inl (0, 6, .inl r)
  | 71 => .inl (0, 4, .inl r)
  | 72 => .inl (0, 4, .inl r)
  | 73 => .inl (0, 160, .inl r)
  | 74 => .inl (0, 40, .inl r)
  | _ => .inl (0, 40, .inl r)
abbrev kv_S : Type := Nat → Nat → Int32
def kv_wd (g : kv_S) (w : kv_W) : kv_H := [kv_cr 0 (g 0) w, kv_cr 1 (g 1) w, kv_cr 2 (g 2) w, kv_cr 3 (g 3) w, kv_cr 4 (g 4) w, kv_cr 5 (g 5) w, kv_cr 6 (g 6) w, kv_cr 7 (g 7) w, kv_cr 8 (g 8) w, kv_cr 9 (g 9) w, kv_cr 10 (g 10) w, kv_cr 11 (g 11) w, kv_cr 12 (g 12) w, kv_cr 13 (g 13) w, kv_cr 14 (g 14) w, kv_cr 15 (g 15) w, kv_cr 16 (g 16) w, kv_cr 17 (g 17) w, kv_cr 18 (g 18) w, kv_cr 19 (g 19) w, kv_cr 20 (g 20) w, kv_cr 21 (g 21) w, kv_cr 22 (g 22) w, kv_cr 23 (g 23) w, kv_cr 24 (g 24) w, kv_cr 25 (g 25) w, kv_cr 26 (g 26) w, kv_cr 27 (g 27) w, kv_cr 28 (g 28) w, kv_cr 29 (g 29) w, kv_cr 30 (g 30) w, kv_cr 31 (g 31) w, kv_cr 32 (g 32) w, kv_cr 33 (g 33) w, kv_cr 34 (g 34) w, kv_cr 35 (g 35) w, kv_cr 36 (g 36) w, kv_cr 37 (g 37) w, kv_cr 38 (g 38) w, kv_cr 39 (g 39) w, kv_cr 40 (g 40) w, kv_cr 41 (g 41) w, kv_cr 42 (g 42) w, kv_cr 43 (g 43) w, kv_cr 44 (g 44) w, kv_cr 45 (g 45) w, kv_cr 46 (g 46) w, kv_cr 47 (g 47) w, kv_cr 48 (g 48) w, kv_cr 49 (g 49) w, kv_cr 50 (g 50) w, kv_cr 51 (g 51) w, kv_cr 52 (g 52) w, kv_cr 53 (g 53) w, kv_cr 54 (g 54) w, kv_cr 55 (g 55) w, kv_cr 56 (g 56) w, kv_cr 57 (g 57) w, kv_cr 58 (g 58) w, kv_cr 59 (g 59) w, kv_cr 60 (g 60) w, kv_cr 61 (g 61) w, kv_cr 62 (g 62) w, kv_cr 63 (g 63) w, kv_cr 64 (g 64) w, kv_cr 65 (g 65) w, kv_cr 66 (g 66) w, kv_cr 67 (g 67) w, kv_cr 68 (g 68) w, kv_cr 69 (g 69) w, kv_cr 70 (g 70) w, kv_cr 71 (g 71) w, kv_cr 72 (g 72) w, kv_cr 73 (g 73) w, kv_cr 74 (g 74) w, kv_cr 75 (g 75) w]
theorem kv_wd_map (g : kv_S) (w : kv_W) : kv_wd g w = (List.range 76).map (fun a => kv_cr a (g a) w) := rfl
theorem kv_wd_get {g : kv_S} {w : kv_W} {a : Nat} (h : a < 76) : (kv_wd g w)[a]? = some (kv_cr a (g a) w) := by
  rw [kv_wd_map, List.getElem?_map, List.getElem?_range h]
  rfl
def kv_up (g : kv_S) (a k : Nat) (x : Int32) : kv_S := fun b => if b = a then upd (g a) k x else g b
def kv_uf (g : kv_S) (a : Nat) (f : Nat → Int32) : kv_S := fun b => if b = a then f else g b
theorem kv_uf_self (g : kv_S) (a : Nat) (f : Nat → Int32) : kv_uf g a f a = f := if_pos rfl
theorem kv_uf_ne {g : kv_S} {a b : Nat} {f : Nat → Int32} (h : b ≠ a) : kv_uf g a f b = g b := if_neg h
theorem kv_up_uf (g : kv_S) (a k : Nat) (x : Int32) : kv_up g a k x = kv_uf g a (upd (g a) k x) := rfl
theorem kv_wd_uf {g : kv_S} {w : kv_W} {a : Nat} {f : Nat → Int32} {c : kv_E} (h : a < 76) (hc : kv_cr a f w = c) : (kv_wd g w).set a c = kv_wd (kv_uf g a f) w := by
  apply List.ext_getElem?
  intro j
  have hlen : ∀ g : kv_S, (kv_wd g w).length = 76 := fun _ => rfl
  by_cases hj : a = j
  · subst hj
    rw [List.getElem?_set_self (by rw [hlen]; exact h), kv_wd_get h, kv_uf_self, hc]
  · rw [List.getElem?_set_ne hj]
    by_cases hl : j < 76
    · rw [kv_wd_get hl, kv_wd_get hl, kv_uf_ne (fun q => hj q.symm)]
    · rw [List.getElem?_eq_none (by rw [hlen]; omega), List.getElem?_eq_none (by rw [hlen]; omega)]
theorem kv_wd_w {g : kv_S} {w : kv_W} {w' : Nat → Int64} : (kv_wd g w).set 47 (.inl (1, 8, .inr (.inl w'))) = kv_wd g (w', w.2) := rfl
/-- the rows of references are as the constructors left them -/
def kv_qok (w : kv_W) : Prop := (∀ j, j < 8 → w.2 5 j = some (14 + j)) ∧ (∀ j, j < 8 → w.2 26 j = some (35 + j)) ∧ ∀ j, j < 4 → w.2 55 j = some (56 + 2 * j)
/-- a handle of an int row, how long it is -/
def kv_an0 (a : Nat) : Option Nat := match kv_cr a (fun _ => 0) (fun _ => 0, fun _ _ => none) with
  | .inl (0, n, .inl _) => some n
  | _ => none
theorem kv_an0_s {a n : Nat} (h : kv_an0 a = some n) (h75 : a < 76) : ∀ (r : Nat → Int32) (w : kv_W), kv_cr a r w = .inl (0, n, .inl r) := by
  have key : ∀ a, a < 76 → ∀ n, kv_an0 a = some n → ∀ (r : Nat → Int32) (w : kv_W), kv_cr a r w = .inl (0, n, .inl r) := fun a => match a with
    | 0 => fun _ n h => by cases h
    | 1 => fun _ n h => by cases h
    | 2 => fun _ n h => by cases h
    | 3 => fun _ n h r w => by cases h; rfl
    | 4 => fun _ n h r w => by cases h; rfl
    | 5 => fun _ n h => by cases h
    | 6 => fun _ n h => by cases h
    | 7 => fun _ n h r w => by cases h; rfl
    | 8 => fun _ n h r w => by cases h; rfl
    | 9 => fun _ n h => by cases h
    | 10 => fun _ n h r w => by cases h; rfl
    | 11 => fun _ n h r w => by cases h; rfl
    | 12 => fun _ n h r w => by cases h; rfl
    | 13 => fun _ n h r w => by cases h; rfl
    | 14 => fun _ n h => by cases h
    | 15 => fun _ n h => by cases h
    | 16 => fun _ n h => by cases h
    | 17 => fun _ n h => by cases h
    | 18 => fun _ n h => by cases h
    | 19 => fun _ n h => by cases h
    | 20 => fun _ n h => by cases h
    | 21 => fun _ n h => by cases h
    | 22 => fun _ n h => by cases h
    | 23 => fun _ n h => by cases h
    | 24 => fun _ n h r w => by cases h; rfl
    | 25 => fun _ n h r w => by cases h; rfl
    | 26 => fun _ n h => by cases h
    | 27 => fun _ n h => by cases h
    | 28 => fun _ n h r w => by cases h; rfl
    | 29 => fun _ n h r w => by cases h; rfl
    | 30 => fun _ n h => by cases h
    | 31 => fun _ n h r w => by cases h; rfl
    | 32 => fun _ n h r w => by cases h; rfl
    | 33 => fun _ n h r w => by cases h; rfl
    | 34 => fun _ n h r w => by cases h; rfl
    | 35 => fun _ n h => by cases h
    | 36 => fun _ n h => by cases h
    | 37 => fun _ n h => by cases h
    | 38 => fun _ n h => by cases h
    | 39 => fun _ n h => by cases h
    | 40 => fun _ n h => by cases h
    | 41 => fun _ n h => by cases h
    | 42 => fun _ n h => by cases h
    | 43 => fun _ n h => by cases h
    | 44 => fun _ n h => by cases h
    | 45 => fun _ n h r w => by cases h; rfl
    | 46 => fun _ n h r w => by cases h; rfl
    | 47 => fun _ n h => by cases h
    | 48 => fun _ n h => by cases h
    | 49 => fun _ n h => by cases h
    | 50 => fun _ n h r w => by cases h; rfl
    | 51 => fun _ n h r w => by cases h; rfl
    | 52 => fun _ n h r w => by cases h; rfl
    | 53 => fun _ n h => by cases h
    | 54 => fun _ n h r w => by cases h; rfl
    | 55 => fun _ n h => by cases h
    | 56 => fun _ n h => by cases h
    | 57 => fun _ n h r w => by cases h; rfl
    | 58 => fun _ n h => by cases h
    | 59 => fun _ n h r w => by cases h; rfl
    | 60 => fun _ n h => by cases h
    | 61 => fun _ n h r w => by cases h; rfl
    | 62 => fun _ n h => by cases h
    | 63 => fun _ n h r w => by cases h; rfl
    | 64 => fun _ n h r w => by cases h; rfl
    | 65 => fun _ n h => by cases h
    | 66 => fun _ n h r w => by cases h; rfl
    | 67 => fun _ n h r w => by cases h; rfl
    | 68 => fun _ n h r w => by cases h; rfl
    | 69 => fun _ n h r w => by cases h; rfl
    | 70 => fun _ n h r w => by cases h; rfl
    | 71 => fun _ n h r w => by cases h; rfl
    | 72 => fun _ n h r w => by cases h; rfl
    | 73 => fun _ n h r w => by cases h; rfl
    | 74 => fun _ n h r w => by cases h; rfl
    | 75 => fun _ n h r w => by cases h; rfl
    | k + 76 => fun h => absurd h (by omega)
  exact key a h75 n h
