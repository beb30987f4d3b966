/-! TEXTS: signs in the order of working out -/
theorem kx_lsd {E : kv_V} {d y pc : Nat} {L : kv_L} {st : List Value} {h : kv_H} {P : Option Value → kv_H → Prop} {df : Int} {ps : Array (Int × Int)} {len td : Nat} {x : Int32} (hat : kv_at y pc = some (.lookupswitch df ps, len)) (hd : kv_j pc df = some td) (hs : (ps.toList.zip (ps.toList.drop 1)).all (fun (a, next) => a.1 < next.1) = true) (hx : Op.lookupswitch.offset ps.toList df x.toInt = df) (kk : kx_V E d y td L st h P) : kx_V E d y pc L (.int x :: st) h P := by
  refine kx_s1 (pc' := td) (L' := L) (st' := st) (h' := h) ?_ kk
  simp only [kx_1, hat, kv_cl1, kv_re, kv_op, if_pos hs, hx, hd, kv_sw]
theorem kx_lso {ps : List (Int × Int)} {df v : Int} (h : ∀ q, q ∈ ps → q.1 ≠ v) : Op.lookupswitch.offset ps df v = df := by
  induction ps with
  | nil => rfl
  | cons q r ih =>
    obtain ⟨a, b⟩ := q
    have h1 : a ≠ v := h (a, b) (by simp)
    rw [Op.lookupswitch.offset_cons, if_neg h1]
    exact ih (fun q hq => h q (by simp [hq]))
def kx_jn (o x y : Int32) : Int32 := if o = 124 then (if x ≠ 0 ∨ y ≠ 0 then 1 else 0) else if o = 38 then (if x ≠ 0 ∧ y ≠ 0 then 1 else 0) else if o = 60 then (if x < y then 1 else 0) else if o = 61 then (if x = y then 1 else 0) else if o = 62 then (if y < x then 1 else 0) else if o = 43 then x + y else if o = 45 then x - y else if o = 42 then x * y else if o = 47 then (if y = 0 then 0 else x / y) else if o = 37 then (if y = 0 then 0 else x % y) else 0
def kx_vl (sg a b c : Int32) : Int32 := if sg = -1 then a else if sg = -2 then b else if sg = -3 then c else sg
def kx_e1 (a b c sg : Int32) (st : List Int32) : List Int32 := if -3 ≤ sg then kx_vl sg a b c :: st else match st with
  | [] => []
  | y :: r => if sg = -33 then (if y = 0 then 1 else 0) :: r else match r with
    | [] => y :: r
    | x :: r2 => kx_jn (-sg) x y :: r2
def kx_ex (a b c : Int32) : List Int32 → List Int32 → List Int32
  | [], st => st
  | s :: l, st => kx_ex a b c l (kx_e1 a b c s st)
theorem kx_ex_app (a b c : Int32) : ∀ (l l' st : List Int32), kx_ex a b c (l ++ l') st = kx_ex a b c l' (kx_ex a b c l st)
  | [], _, _ => rfl
  | s :: l, l', st => kx_ex_app a b c l l' (kx_e1 a b c s st)
/-- how many of the signs are values -/
def kx_nv : List Int32 → Nat
  | [] => 0
  | s :: l => (if -3 ≤ s then 1 else 0) + kx_nv l
theorem kx_nv_app : ∀ l l' : List Int32, kx_nv (l ++ l') = kx_nv l + kx_nv l'
  | [], l' => by show kx_nv l' = 0 + _; omega
  | s :: l, l' => by show (if -3 ≤ s then 1 else 0) + kx_nv (l ++ l') = (if -3 ≤ s then 1 else 0) + kx_nv l + kx_nv l'; rw [kx_nv_app l l']; omega
def kx_lv (x : Int32) : Int32 := (if x = 124 then 0 else if x = 38 then 1 else if x = 60 ∨ x = 61 ∨ x = 62 then 2 else if x = 43 ∨ x = 45 then 3 else if x = 42 ∨ x = 47 ∨ x = 37 then 4 else -1)
set_option maxRecDepth 100000 in
theorem ev_levelOf_37 {E : kv_V} {d : Nat} {g : kv_S} {w : kv_W}  : kv_ev E (d + 1) 48 [.int 37] (kv_wd g w) (some (.int 4)) (kv_wd g w) := by
  refine kx_ev (d := d + 0) (by decide) (Nat.le_of_ble_eq_true rfl) ?_
  refine kx_st 0 (pc' := 0) (L' := [some (.int 37)]) (st' := []) (h' := kv_wd g w) rfl ?_
  refine kx_st 3 (pc' := 101) (L' := [some (.int 37)]) (st' := [.int 4]) (h' := kv_wd g w) rfl ?_
  refine kx_ret (v := some (.int 4)) rfl ?_
  exact ⟨rfl, rfl⟩
set_option maxRecDepth 100000 in
theorem ev_levelOf_38 {E : kv_V} {d : Nat} {g : kv_S} {w : kv_W}  : kv_ev E (d + 1) 48 [.int 38] (kv_wd g w) (some (.int 1)) (kv_wd g w) := by
  refine kx_ev (d := d + 0) (by decide) (Nat.le_of_ble_eq_true rfl) ?_
  refine kx_st 0 (pc' := 0) (L' := [some (.int 38)]) (st' := []) (h' := kv_wd g w) rfl ?_
  refine kx_st 3 (pc' := 95) (L' := [some (.int 38)]) (st' := [.int 1]) (h' := kv_wd g w) rfl ?_
  refine kx_ret (v := some (.int 1)) rfl ?_
  exact ⟨rfl, rfl⟩
set_option maxRecDepth 100000 in
theorem ev_levelOf_42 {E : kv_V} {d : Nat} {g : kv_S} {w : kv_W}  : kv_ev E (d + 1) 48 [.int 42] (kv_wd g w) (some (.int 4)) (kv_wd g w) := by
  refine kx_ev (d := d + 0) (by decide) (Nat.le_of_ble_eq_true rfl) ?_
  refine kx_st 0 (pc' := 0) (L' := [some (.int 42)]) (st' := []) (h' := kv_wd g w) rfl ?_
  refine kx_st 3 (pc' := 101) (L' := [some (.int 42)]) (st' := [.int 4]) (h' := kv_wd g w) rfl ?_
  refine kx_ret (v := some (.int 4)) rfl ?_
  exact ⟨rfl, rfl⟩
set_option maxRecDepth 100000 in
theorem ev_levelOf_43 {E : kv_V} {d : Nat} {g : kv_S} {w : kv_W}  : kv_ev E (d + 1) 48 [.int 43] (kv_wd g w) (some (.int 3)) (kv_wd g w) := by
  refine kx_ev (d := d + 0) (by decide) (Nat.le_of_ble_eq_true rfl) ?_
  refine kx_st 0 (pc' := 0) (L' := [some (.int 43)]) (st' := []) (h' := kv_wd g w) rfl ?_
  refine kx_st 3 (pc' := 99) (L' := [some (.int 43)]) (st' := [.int 3]) (h' := kv_wd g w) rfl ?_
  refine kx_ret (v := some (.int 3)) rfl ?_
  exact ⟨rfl, rfl⟩
set_option maxRecDepth 100000 in
theorem ev_levelOf_45 {E : kv_V} {d : Nat} {g : kv_S} {w : kv_W}  : kv_ev E (d + 1) 48 [.int 45] (kv_wd g w) (some (.int 3)) (kv_wd g w) := by
  refine kx_ev (d := d + 0) (by decide) (Nat.le_of_ble_eq_true rfl) ?_
  refine kx_st 0 (pc' := 0) (L' := [some (.int 45)]) (st' := []) (h' := kv_wd g w) rfl ?_
  refine kx_st 3 (pc' := 99) (L' := [some (.int 45)]) (st' := [.int 3]) (h' := kv_wd g w) rfl ?_
  refine kx_ret (v := some (.int 3)) rfl ?_
  exact ⟨rfl, rfl⟩
set_option maxRecDepth 100000 in
theorem ev_levelOf_47 {E : kv_V} {d : Nat} {g : kv_S} {w : kv_W}  : kv_ev E (d + 1) 48 [.int 47] (kv_wd g w) (some (.int 4)) (kv_wd g w) := by
  refine kx_ev (d := d + 0) (by decide) (Nat.le_of_ble_eq_true rfl) ?_
  refine kx_st 0 (pc' := 0) (L' := [some (.int 47)]) (st' := []) (h' := kv_wd g w) rfl ?_
  refine kx_st 3 (pc' := 101) (L' := [some (.int 47)]) (st' := [.int 4]) (h' := kv_wd g w) rfl ?_
  refine kx_ret (v := some (.int 4)) rfl ?_
  exact ⟨rfl, rfl⟩
set_option maxRecDepth 100000 in
theorem ev_levelOf_60 {E : kv_V} {d : Nat} {g : kv_S} {w : kv_W}  : kv_ev E (d + 1) 48 [.int 60] (kv_wd g w) (some (.int 2)) (kv_wd g w) := by
  refine kx_ev (d := d + 0) (by decide) (Nat.le_of_ble_eq_true rfl) ?_
  refine kx_st 0 (pc' := 0) (L' := [some (.int 60)]) (st' := []) (h' := kv_wd g w) rfl ?_
  refine kx_st 3 (pc' := 97) (L' := [some (.int 60)]) (st' := [.int 2]) (h' := kv_wd g w) rfl ?_
  refine kx_ret (v := some (.int 2)) rfl ?_
  exact ⟨rfl, rfl⟩
set_option maxRecDepth 100000 in
theorem ev_levelOf_61 {E : kv_V} {d : Nat} {g : kv_S} {w : kv_W}  : kv_ev E (d + 1) 48 [.int 61] (kv_wd g w) (some (.int 2)) (kv_wd g w) := by
  refine kx_ev (d := d + 0) (by decide) (Nat.le_of_ble_eq_true rfl) ?_
  refine kx_st 0 (pc' := 0) (L' := [some (.int 61)]) (st' := []) (h' := kv_wd g w) rfl ?_
  refine kx_st 3 (pc' := 97) (L' := [some (.int 61)]) (st' := [.int 2]) (h' := kv_wd g w) rfl ?_
  refine kx_ret (v := some (.int 2)) rfl ?_
  exact ⟨rfl, rfl⟩
set_option maxRecDepth 100000 in
theorem ev_levelOf_62 {E : kv_V} {d : Nat} {g : kv_S} {w : kv_W}  : kv_ev E (d + 1) 48 [.int 62] (kv_wd g w) (some (.int 2)) (kv_wd g w) := by
  refine kx_ev (d := d + 0) (by decide) (Nat.le_of_ble_eq_true rfl) ?_
  refine kx_st 0 (pc' := 0) (L' := [some (.int 62)]) (st' := []) (h' := kv_wd g w) rfl ?_
  refine kx_st 3 (pc' := 97) (L' := [some (.int 62)]) (st' := [.int 2]) (h' := kv_wd g w) rfl ?_
  refine kx_ret (v := some (.int 2)) rfl ?_
  exact ⟨rfl, rfl⟩
set_option maxRecDepth 100000 in
theorem ev_levelOf_124 {E : kv_V} {d : Nat} {g : kv_S} {w : kv_W}  : kv_ev E (d + 1) 48 [.int 124] (kv_wd g w) (some (.int 0)) (kv_wd g w) := by
  refine kx_ev (d := d + 0) (by decide) (Nat.le_of_ble_eq_true rfl) ?_
  refine kx_st 0 (pc' := 0) (L' := [some (.int 124)]) (st' := []) (h' := kv_wd g w) rfl ?_
  refine kx_st 3 (pc' := 93) (L' := [some (.int 124)]) (st' := [.int 0]) (h' := kv_wd g w) rfl ?_
  refine kx_ret (v := some (.int 0)) rfl ?_
  exact ⟨rfl, rfl⟩
set_option maxRecDepth 100000 in
theorem ev_levelOf_d {E : kv_V} {d : Nat} {g : kv_S} {w : kv_W} (x : Int32) (h37 : ¬ x = 37) (h38 : ¬ x = 38) (h42 : ¬ x = 42) (h43 : ¬ x = 43) (h45 : ¬ x = 45) (h47 : ¬ x = 47) (h60 : ¬ x = 60) (h61 : ¬ x = 61) (h62 : ¬ x = 62) (h124 : ¬ x = 124) : kv_ev E (d + 1) 48 [.int x] (kv_wd g w) (some (.int (-1))) (kv_wd g w) := by
  refine kx_ev (d := d + 0) (by decide) (Nat.le_of_ble_eq_true rfl) ?_
  refine kx_st 1 (pc' := 1) (L' := [some (.int x)]) (st' := [.int x]) (h' := kv_wd g w) rfl ?_
  refine kx_lsd (td := 102) rfl rfl (by decide) (kx_lso (fun q hq => ?_)) ?_
  · simp only [List.mem_cons, List.not_mem_nil, or_false] at hq
    rcases hq with rfl | rfl | rfl | rfl | rfl | rfl | rfl | rfl | rfl | rfl
    · exact fun z => h37 (Int32.toInt_inj.mp (by rw [← z]; rfl))
    · exact fun z => h38 (Int32.toInt_inj.mp (by rw [← z]; rfl))
    · exact fun z => h42 (Int32.toInt_inj.mp (by rw [← z]; rfl))
    · exact fun z => h43 (Int32.toInt_inj.mp (by rw [← z]; rfl))
    · exact fun z => h45 (Int32.toInt_inj.mp (by rw [← z]; rfl))
    · exact fun z => h47 (Int32.toInt_inj.mp (by rw [← z]; rfl))
    · exact fun z => h60 (Int32.toInt_inj.mp (by rw [← z]; rfl))
    · exact fun z => h61 (Int32.toInt_inj.mp (by rw [← z]; rfl))
    · exact fun z => h62 (Int32.toInt_inj.mp (by rw [← z]; rfl))
    · exact fun z => h124 (Int32.toInt_inj.mp (by rw [← z]; rfl))
  refine kx_st 1 (pc' := 103) (L' := [some (.int x)]) (st' := [.int (-1)]) (h' := kv_wd g w) rfl ?_
  refine kx_ret (v := some (.int (-1))) rfl ?_
  exact ⟨rfl, rfl⟩
theorem ev_levelOf {E : kv_V} {d : Nat} {g : kv_S} {w : kv_W} (x : Int32) : kv_ev E (d + 1) 48 [.int x] (kv_wd g w) (some (.int (kx_lv x))) (kv_wd g w) := by
  by_cases h124 : x = 124
  · subst h124; exact ev_levelOf_124
  by_cases h38 : x = 38
  · subst h38; exact ev_levelOf_38
  by_cases h60 : x = 60
  · subst h60; exact ev_levelOf_60
  by_cases h61 : x = 61
  · subst h61; exact ev_levelOf_61
  by_cases h62 : x = 62
  · subst h62; exact ev_levelOf_62
  by_cases h43 : x = 43
  · subst h43; exact ev_levelOf_43
  by_cases h45 : x = 45
  · subst h45; exact ev_levelOf_45
  by_cases h42 : x = 42
  · subst h42; exact ev_levelOf_42
  by_cases h47 : x = 47
  · subst h47; exact ev_levelOf_47
  by_cases h37 : x = 37
  · subst h37; exact ev_levelOf_37
  have e : kx_lv x = -1 := by
    unfold kx_lv
    rw [if_neg h124, if_neg h38, if_neg (fun z => z.elim h60 (fun z => z.elim h61 h62)), if_neg (fun z => z.elim h43 h45), if_neg (fun z => z.elim h42 (fun z => z.elim h47 h37))]
  rw [e]
  exact ev_levelOf_d x h37 h38 h42 h43 h45 h47 h60 h61 h62 h124
set_option maxRecDepth 100000 in
theorem ev_joined_37 {E : kv_V} {d : Nat} {g : kv_S} {w : kv_W} (x y : Int32) : kv_ev E (d + 1) 44 [.int 37, .int x, .int y] (kv_wd g w) (some (.int (kx_jn 37 x y))) (kv_wd g w) := by
  refine kx_ev (d := d + 0) (by decide) (Nat.le_of_ble_eq_true rfl) ?_
  refine kx_st 0 (pc' := 0) (L' := [some (.int 37), some (.int x), some (.int y)]) (st' := []) (h' := kv_wd g w) rfl ?_
  refine kx_st 3 (pc' := 178) (L' := [some (.int 37), some (.int x), some (.int y)]) (st' := [.int y]) (h' := kv_wd g w) rfl ?_
  refine kx_bc (t := 185) rfl rfl (fun (h178 : ¬ y = 0) => ?_) (fun (h178 : ¬ (¬ y = 0)) => ?_)
  · refine kx_st 2 (pc' := 187) (L' := [some (.int 37), some (.int x), some (.int y)]) (st' := [.int y, .int x]) (h' := kv_wd g w) rfl ?_
    refine kx_rm rfl h178 ?_
    refine kx_ret (v := some (.int (x % y))) rfl ?_
    exact ⟨congrArg (fun z => some (Value.int z)) (show _ = kx_jn 37 x y from (if_neg h178).symm), rfl⟩
  · refine kx_st 0 (pc' := 181) (L' := [some (.int 37), some (.int x), some (.int y)]) (st' := []) (h' := kv_wd g w) rfl ?_
    refine kx_st 2 (pc' := 188) (L' := [some (.int 37), some (.int x), some (.int y)]) (st' := [.int 0]) (h' := kv_wd g w) rfl ?_
    refine kx_ret (v := some (.int 0)) rfl ?_
    exact ⟨congrArg (fun z => some (Value.int z)) (show _ = kx_jn 37 x y from (if_pos (Classical.not_not.mp h178)).symm), rfl⟩
set_option maxRecDepth 100000 in
theorem ev_joined_38 {E : kv_V} {d : Nat} {g : kv_S} {w : kv_W} (x y : Int32) : kv_ev E (d + 1) 44 [.int 38, .int x, .int y] (kv_wd g w) (some (.int (kx_jn 38 x y))) (kv_wd g w) := by
  refine kx_ev (d := d + 0) (by decide) (Nat.le_of_ble_eq_true rfl) ?_
  refine kx_st 0 (pc' := 0) (L' := [some (.int 38), some (.int x), some (.int y)]) (st' := []) (h' := kv_wd g w) rfl ?_
  refine kx_st 3 (pc' := 107) (L' := [some (.int 38), some (.int x), some (.int y)]) (st' := [.int x]) (h' := kv_wd g w) rfl ?_
  refine kx_bc (t := 118) rfl rfl (fun (h107 : x = 0) => ?_) (fun (h107 : ¬ (x = 0)) => ?_)
  · refine kx_st 1 (pc' := 119) (L' := [some (.int 38), some (.int x), some (.int y)]) (st' := [.int 0]) (h' := kv_wd g w) rfl ?_
    refine kx_ret (v := some (.int 0)) rfl ?_
    exact ⟨congrArg (fun z => some (Value.int z)) (show _ = kx_jn 38 x y from (if_neg (fun z => z.1 h107)).symm), rfl⟩
  · refine kx_st 0 (pc' := 110) (L' := [some (.int 38), some (.int x), some (.int y)]) (st' := []) (h' := kv_wd g w) rfl ?_
    refine kx_st 1 (pc' := 111) (L' := [some (.int 38), some (.int x), some (.int y)]) (st' := [.int y]) (h' := kv_wd g w) rfl ?_
    refine kx_bc (t := 118) rfl rfl (fun (h111 : y = 0) => ?_) (fun (h111 : ¬ (y = 0)) => ?_)
    · refine kx_st 1 (pc' := 119) (L' := [some (.int 38), some (.int x), some (.int y)]) (st' := [.int 0]) (h' := kv_wd g w) rfl ?_
      refine kx_ret (v := some (.int 0)) rfl ?_
      exact ⟨congrArg (fun z => some (Value.int z)) (show _ = kx_jn 38 x y from (if_neg (fun z => z.2 h111)).symm), rfl⟩
    · refine kx_st 0 (pc' := 114) (L' := [some (.int 38), some (.int x), some (.int y)]) (st' := []) (h' := kv_wd g w) rfl ?_
      refine kx_st 2 (pc' := 119) (L' := [some (.int 38), some (.int x), some (.int y)]) (st' := [.int 1]) (h' := kv_wd g w) rfl ?_
      refine kx_ret (v := some (.int 1)) rfl ?_
      exact ⟨congrArg (fun z => some (Value.int z)) (show _ = kx_jn 38 x y from (if_pos ⟨h107, h111⟩).symm), rfl⟩
set_option maxRecDepth 100000 in
theorem ev_joined_42 {E : kv_V} {d : Nat} {g : kv_S} {w : kv_W} (x y : Int32) : kv_ev E (d + 1) 44 [.int 42, .int x, .int y] (kv_wd g w) (some (.int (kx_jn 42 x y))) (kv_wd g w) := by
  refine kx_ev (d := d + 0) (by decide) (Nat.le_of_ble_eq_true rfl) ?_
  refine kx_st 0 (pc' := 0) (L' := [some (.int 42), some (.int x), some (.int y)]) (st' := []) (h' := kv_wd g w) rfl ?_
  refine kx_st 5 (pc' := 164) (L' := [some (.int 42), some (.int x), some (.int y)]) (st' := [.int (x * y)]) (h' := kv_wd g w) rfl ?_
  refine kx_ret (v := some (.int (x * y))) rfl ?_
  exact ⟨rfl, rfl⟩
set_option maxRecDepth 100000 in
theorem ev_joined_43 {E : kv_V} {d : Nat} {g : kv_S} {w : kv_W} (x y : Int32) : kv_ev E (d + 1) 44 [.int 43, .int x, .int y] (kv_wd g w) (some (.int (kx_jn 43 x y))) (kv_wd g w) := by
  refine kx_ev (d := d + 0) (by decide) (Nat.le_of_ble_eq_true rfl) ?_
  refine kx_st 0 (pc' := 0) (L' := [some (.int 43), some (.int x), some (.int y)]) (st' := []) (h' := kv_wd g w) rfl ?_
  refine kx_st 5 (pc' := 156) (L' := [some (.int 43), some (.int x), some (.int y)]) (st' := [.int (x + y)]) (h' := kv_wd g w) rfl ?_
  refine kx_ret (v := some (.int (x + y))) rfl ?_
  exact ⟨rfl, rfl⟩
set_option maxRecDepth 100000 in
theorem ev_joined_45 {E : kv_V} {d : Nat} {g : kv_S} {w : kv_W} (x y : Int32) : kv_ev E (d + 1) 44 [.int 45, .int x, .int y] (kv_wd g w) (some (.int (kx_jn 45 x y))) (kv_wd g w) := by
  refine kx_ev (d := d + 0) (by decide) (Nat.le_of_ble_eq_true rfl) ?_
  refine kx_st 0 (pc' := 0) (L' := [some (.int 45), some (.int x), some (.int y)]) (st' := []) (h' := kv_wd g w) rfl ?_
  refine kx_st 5 (pc' := 160) (L' := [some (.int 45), some (.int x), some (.int y)]) (st' := [.int (x - y)]) (h' := kv_wd g w) rfl ?_
  refine kx_ret (v := some (.int (x - y))) rfl ?_
  exact ⟨rfl, rfl⟩
set_option maxRecDepth 100000 in
theorem ev_joined_47 {E : kv_V} {d : Nat} {g : kv_S} {w : kv_W} (x y : Int32) : kv_ev E (d + 1) 44 [.int 47, .int x, .int y] (kv_wd g w) (some (.int (kx_jn 47 x y))) (kv_wd g w) := by
  refine kx_ev (d := d + 0) (by decide) (Nat.le_of_ble_eq_true rfl) ?_
  refine kx_st 0 (pc' := 0) (L' := [some (.int 47), some (.int x), some (.int y)]) (st' := []) (h' := kv_wd g w) rfl ?_
  refine kx_st 3 (pc' := 166) (L' := [some (.int 47), some (.int x), some (.int y)]) (st' := [.int y]) (h' := kv_wd g w) rfl ?_
  refine kx_bc (t := 173) rfl rfl (fun (h166 : ¬ y = 0) => ?_) (fun (h166 : ¬ (¬ y = 0)) => ?_)
  · refine kx_st 2 (pc' := 175) (L' := [some (.int 47), some (.int x), some (.int y)]) (st' := [.int y, .int x]) (h' := kv_wd g w) rfl ?_
    refine kx_dv rfl h166 ?_
    refine kx_ret (v := some (.int (x / y))) rfl ?_
    exact ⟨congrArg (fun z => some (Value.int z)) (show _ = kx_jn 47 x y from (if_neg h166).symm), rfl⟩
  · refine kx_st 0 (pc' := 169) (L' := [some (.int 47), some (.int x), some (.int y)]) (st' := []) (h' := kv_wd g w) rfl ?_
    refine kx_st 2 (pc' := 176) (L' := [some (.int 47), some (.int x), some (.int y)]) (st' := [.int 0]) (h' := kv_wd g w) rfl ?_
    refine kx_ret (v := some (.int 0)) rfl ?_
    exact ⟨congrArg (fun z => some (Value.int z)) (show _ = kx_jn 47 x y from (if_pos (Classical.not_not.mp h166)).symm), rfl⟩
set_option maxRecDepth 100000 in
theorem ev_joined_60 {E : kv_V} {d : Nat} {g : kv_S} {w : kv_W} (x y : Int32) : kv_ev E (d + 1) 44 [.int 60, .int x, .int y] (kv_wd g w) (some (.int (kx_jn 60 x y))) (kv_wd g w) := by
  refine kx_ev (d := d + 0) (by decide) (Nat.le_of_ble_eq_true rfl) ?_
  refine kx_st 0 (pc' := 0) (L' := [some (.int 60), some (.int x), some (.int y)]) (st' := []) (h' := kv_wd g w) rfl ?_
  refine kx_st 4 (pc' := 122) (L' := [some (.int 60), some (.int x), some (.int y)]) (st' := [.int y, .int x]) (h' := kv_wd g w) rfl ?_
  refine kx_bi (t := 129) rfl rfl (fun (h122 : y ≤ x) => ?_) (fun (h122 : ¬ (y ≤ x)) => ?_)
  · refine kx_st 1 (pc' := 130) (L' := [some (.int 60), some (.int x), some (.int y)]) (st' := [.int 0]) (h' := kv_wd g w) rfl ?_
    refine kx_ret (v := some (.int 0)) rfl ?_
    exact ⟨congrArg (fun z => some (Value.int z)) (show _ = kx_jn 60 x y from (if_neg (Int32.not_lt.mpr h122)).symm), rfl⟩
  · refine kx_st 0 (pc' := 125) (L' := [some (.int 60), some (.int x), some (.int y)]) (st' := []) (h' := kv_wd g w) rfl ?_
    refine kx_st 2 (pc' := 130) (L' := [some (.int 60), some (.int x), some (.int y)]) (st' := [.int 1]) (h' := kv_wd g w) rfl ?_
    refine kx_ret (v := some (.int 1)) rfl ?_
    exact ⟨congrArg (fun z => some (Value.int z)) (show _ = kx_jn 60 x y from (if_pos (Int32.not_le.mp h122)).symm), rfl⟩
set_option maxRecDepth 100000 in
theorem ev_joined_61 {E : kv_V} {d : Nat} {g : kv_S} {w : kv_W} (x y : Int32) : kv_ev E (d + 1) 44 [.int 61, .int x, .int y] (kv_wd g w) (some (.int (kx_jn 61 x y))) (kv_wd g w) := by
  refine kx_ev (d := d + 0) (by decide) (Nat.le_of_ble_eq_true rfl) ?_
  refine kx_st 0 (pc' := 0) (L' := [some (.int 61), some (.int x), some (.int y)]) (st' := []) (h' := kv_wd g w) rfl ?_
  refine kx_st 4 (pc' := 133) (L' := [some (.int 61), some (.int x), some (.int y)]) (st' := [.int y, .int x]) (h' := kv_wd g w) rfl ?_
  refine kx_bi (t := 140) rfl rfl (fun (h133 : ¬ x = y) => ?_) (fun (h133 : ¬ (¬ x = y)) => ?_)
  · refine kx_st 1 (pc' := 141) (L' := [some (.int 61), some (.int x), some (.int y)]) (st' := [.int 0]) (h' := kv_wd g w) rfl ?_
    refine kx_ret (v := some (.int 0)) rfl ?_
    exact ⟨congrArg (fun z => some (Value.int z)) (show _ = kx_jn 61 x y from (if_neg h133).symm), rfl⟩
  · refine kx_st 0 (pc' := 136) (L' := [some (.int 61), some (.int x), some (.int y)]) (st' := []) (h' := kv_wd g w) rfl ?_
    refine kx_st 2 (pc' := 141) (L' := [some (.int 61), some (.int x), some (.int y)]) (st' := [.int 1]) (h' := kv_wd g w) rfl ?_
    refine kx_ret (v := some (.int 1)) rfl ?_
    exact ⟨congrArg (fun z => some (Value.int z)) (show _ = kx_jn 61 x y from (if_pos (Classical.not_not.mp h133)).symm), rfl⟩
set_option maxRecDepth 100000 in
theorem ev_joined_62 {E : kv_V} {d : Nat} {g : kv_S} {w : kv_W} (x y : Int32) : kv_ev E (d + 1) 44 [.int 62, .int x, .int y] (kv_wd g w) (some (.int (kx_jn 62 x y))) (kv_wd g w) := by
  refine kx_ev (d := d + 0) (by decide) (Nat.le_of_ble_eq_true rfl) ?_
  refine kx_st 0 (pc' := 0) (L' := [some (.int 62), some (.int x), some (.int y)]) (st' := []) (h' := kv_wd g w) rfl ?_
  refine kx_st 4 (pc' := 144) (L' := [some (.int 62), some (.int x), some (.int y)]) (st' := [.int y, .int x]) (h' := kv_wd g w) rfl ?_
  refine kx_bi (t := 151) rfl rfl (fun (h144 : x ≤ y) => ?_) (fun (h144 : ¬ (x ≤ y)) => ?_)
  · refine kx_st 1 (pc' := 152) (L' := [some (.int 62), some (.int x), some (.int y)]) (st' := [.int 0]) (h' := kv_wd g w) rfl ?_
    refine kx_ret (v := some (.int 0)) rfl ?_
    exact ⟨congrArg (fun z => some (Value.int z)) (show _ = kx_jn 62 x y from (if_neg (Int32.not_lt.mpr h144)).symm), rfl⟩
  · refine kx_st 0 (pc' := 147) (L' := [some (.int 62), some (.int x), some (.int y)]) (st' := []) (h' := kv_wd g w) rfl ?_
    refine kx_st 2 (pc' := 152) (L' := [some (.int 62), some (.int x), some (.int y)]) (st' := [.int 1]) (h' := kv_wd g w) rfl ?_
    refine kx_ret (v := some (.int 1)) rfl ?_
    exact ⟨congrArg (fun z => some (Value.int z)) (show _ = kx_jn 62 x y from (if_pos (Int32.not_le.mp h144)).symm), rfl⟩
set_option maxRecDepth 100000 in
theorem ev_joined_124 {E : kv_V} {d : Nat} {g : kv_S} {w : kv_W} (x y : Int32) : kv_ev E (d + 1) 44 [.int 124, .int x, .int y] (kv_wd g w) (some (.int (kx_jn 124 x y))) (kv_wd g w) := by
  refine kx_ev (d := d + 0) (by decide) (Nat.le_of_ble_eq_true rfl) ?_
  refine kx_st 0 (pc' := 0) (L' := [some (.int 124), some (.int x), some (.int y)]) (st' := []) (h' := kv_wd g w) rfl ?_
  refine kx_st 3 (pc' := 93) (L' := [some (.int 124), some (.int x), some (.int y)]) (st' := [.int x]) (h' := kv_wd g w) rfl ?_
  refine kx_bc (t := 100) rfl rfl (fun (h93 : ¬ x = 0) => ?_) (fun (h93 : ¬ (¬ x = 0)) => ?_)
  · refine kx_st 2 (pc' := 105) (L' := [some (.int 124), some (.int x), some (.int y)]) (st' := [.int 1]) (h' := kv_wd g w) rfl ?_
    refine kx_ret (v := some (.int 1)) rfl ?_
    exact ⟨congrArg (fun z => some (Value.int z)) (show 1 = (if x ≠ 0 ∨ y ≠ 0 then (1 : Int32) else 0) from (if_pos (Or.inl h93)).symm), rfl⟩
  · refine kx_st 0 (pc' := 96) (L' := [some (.int 124), some (.int x), some (.int y)]) (st' := []) (h' := kv_wd g w) rfl ?_
    refine kx_st 1 (pc' := 97) (L' := [some (.int 124), some (.int x), some (.int y)]) (st' := [.int y]) (h' := kv_wd g w) rfl ?_
    refine kx_bc (t := 104) rfl rfl (fun (h97 : y = 0) => ?_) (fun (h97 : ¬ (y = 0)) => ?_)
    · refine kx_st 1 (pc' := 105) (L' := [some (.int 124), some (.int x), some (.int y)]) (st' := [.int 0]) (h' := kv_wd g w) rfl ?_
      refine kx_ret (v := some (.int 0)) rfl ?_
      exact ⟨congrArg (fun z => some (Value.int z)) (show 0 = (if x ≠ 0 ∨ y ≠ 0 then (1 : Int32) else 0) from (if_neg (fun z => z.elim h93 (fun z => z h97))).symm), rfl⟩
    · refine kx_st 0 (pc' := 100) (L' := [some (.int 124), some (.int x), some (.int y)]) (st' := []) (h' := kv_wd g w) rfl ?_
      refine kx_st 2 (pc' := 105) (L' := [some (.int 124), some (.int x), some (.int y)]) (st' := [.int 1]) (h' := kv_wd g w) rfl ?_
      refine kx_ret (v := some (.int 1)) rfl ?_
      exact ⟨congrArg (fun z => some (Value.int z)) (show 1 = (if x ≠ 0 ∨ y ≠ 0 then (1 : Int32) else 0) from (if_pos (Or.inr h97)).symm), rfl⟩
set_option maxRecDepth 100000 in
theorem ev_joined_d {E : kv_V} {d : Nat} {g : kv_S} {w : kv_W} (x a b : Int32) (h37 : ¬ x = 37) (h38 : ¬ x = 38) (h42 : ¬ x = 42) (h43 : ¬ x = 43) (h45 : ¬ x = 45) (h47 : ¬ x = 47) (h60 : ¬ x = 60) (h61 : ¬ x = 61) (h62 : ¬ x = 62) (h124 : ¬ x = 124) : kv_ev E (d + 1) 44 [.int x, .int a, .int b] (kv_wd g w) (some (.int 0)) (kv_wd g w) := by
  refine kx_ev (d := d + 0) (by decide) (Nat.le_of_ble_eq_true rfl) ?_
  refine kx_st 1 (pc' := 1) (L' := [some (.int x), some (.int a), some (.int b)]) (st' := [.int x]) (h' := kv_wd g w) rfl ?_
  refine kx_lsd (td := 189) rfl rfl (by decide) (kx_lso (fun q hq => ?_)) ?_
  · simp only [List.mem_cons, List.not_mem_nil, or_false] at hq
    rcases hq with rfl | rfl | rfl | rfl | rfl | rfl | rfl | rfl | rfl | rfl
    · exact fun z => h37 (Int32.toInt_inj.mp (by rw [← z]; rfl))
    · exact fun z => h38 (Int32.toInt_inj.mp (by rw [← z]; rfl))
    · exact fun z => h42 (Int32.toInt_inj.mp (by rw [← z]; rfl))
    · exact fun z => h43 (Int32.toInt_inj.mp (by rw [← z]; rfl))
    · exact fun z => h45 (Int32.toInt_inj.mp (by rw [← z]; rfl))
    · exact fun z => h47 (Int32.toInt_inj.mp (by rw [← z]; rfl))
    · exact fun z => h60 (Int32.toInt_inj.mp (by rw [← z]; rfl))
    · exact fun z => h61 (Int32.toInt_inj.mp (by rw [← z]; rfl))
    · exact fun z => h62 (Int32.toInt_inj.mp (by rw [← z]; rfl))
    · exact fun z => h124 (Int32.toInt_inj.mp (by rw [← z]; rfl))
  refine kx_st 1 (pc' := 190) (L' := [some (.int x), some (.int a), some (.int b)]) (st' := [.int 0]) (h' := kv_wd g w) rfl ?_
  refine kx_ret (v := some (.int 0)) rfl ?_
  exact ⟨rfl, rfl⟩
theorem ev_joined {E : kv_V} {d : Nat} {g : kv_S} {w : kv_W} (x a b : Int32) : kv_ev E (d + 1) 44 [.int x, .int a, .int b] (kv_wd g w) (some (.int (kx_jn x a b))) (kv_wd g w) := by
  by_cases h124 : x = 124
  · subst h124; exact ev_joined_124 a b
  by_cases h38 : x = 38
  · subst h38; exact ev_joined_38 a b
  by_cases h60 : x = 60
  · subst h60; exact ev_joined_60 a b
  by_cases h61 : x = 61
  · subst h61; exact ev_joined_61 a b
  by_cases h62 : x = 62
  · subst h62; exact ev_joined_62 a b
  by_cases h43 : x = 43
  · subst h43; exact ev_joined_43 a b
  by_cases h45 : x = 45
  · subst h45; exact ev_joined_45 a b
  by_cases h42 : x = 42
  · subst h42; exact ev_joined_42 a b
  by_cases h47 : x = 47
  · subst h47; exact ev_joined_47 a b
  by_cases h37 : x = 37
  · subst h37; exact ev_joined_37 a b
  have e : kx_jn x a b = 0 := by
    unfold kx_jn
    rw [if_neg h124, if_neg h38, if_neg h60, if_neg h61, if_neg h62, if_neg h43, if_neg h45, if_neg h42, if_neg h47, if_neg h37]
  rw [e]
  exact ev_joined_d x a b h37 h38 h42 h43 h45 h47 h60 h61 h62 h124
set_option maxRecDepth 100000 in
theorem ev_isValue {E : kv_V} {d : Nat} {g : kv_S} {w : kv_W} (x : Int32) : kv_ev E (d + 1) 42 [.int x] (kv_wd g w) (some (.int (kx_b (-3 ≤ x)))) (kv_wd g w) := by
  refine kx_ev (d := d + 0) (by decide) (Nat.le_of_ble_eq_true rfl) ?_
  refine kx_st 0 (pc' := 0) (L' := [some (.int x)]) (st' := []) (h' := kv_wd g w) rfl ?_
  refine kx_st 2 (pc' := 3) (L' := [some (.int x)]) (st' := [.int (-3), .int x]) (h' := kv_wd g w) rfl ?_
  refine kx_bi (t := 10) rfl rfl (fun (h3 : x < (-3)) => ?_) (fun (h3 : ¬ (x < (-3))) => ?_)
  · refine kx_st 1 (pc' := 11) (L' := [some (.int x)]) (st' := [.int 0]) (h' := kv_wd g w) rfl ?_
    refine kx_ret (v := some (.int 0)) rfl ?_
    exact ⟨kx_l0 (fun z => Int32.not_lt.mpr z h3), rfl⟩
  · refine kx_st 0 (pc' := 6) (L' := [some (.int x)]) (st' := []) (h' := kv_wd g w) rfl ?_
    refine kx_st 2 (pc' := 11) (L' := [some (.int x)]) (st' := [.int 1]) (h' := kv_wd g w) rfl ?_
    refine kx_ret (v := some (.int 1)) rfl ?_
    exact ⟨kx_l1 (Int32.not_lt.mp h3), rfl⟩
set_option maxRecDepth 100000 in
theorem ev_valueOf {E : kv_V} {d : Nat} {g : kv_S} {w : kv_W} (x a b c : Int32) : kv_ev E (d + 1) 43 [.int x, .int a, .int b, .int c] (kv_wd g w) (some (.int (kx_vl x a b c))) (kv_wd g w) := by
  refine kx_ev (d := d + 0) (by decide) (Nat.le_of_ble_eq_true rfl) ?_
  refine kx_st 0 (pc' := 0) (L' := [some (.int x), some (.int a), some (.int b), some (.int c)]) (st' := []) (h' := kv_wd g w) rfl ?_
  refine kx_st 1 (pc' := 1) (L' := [some (.int x), some (.int a), some (.int b), some (.int c)]) (st' := [.int x]) (h' := kv_wd g w) rfl ?_
  refine kx_ts (td := 34) rfl rfl (fun h1 => ?_) (fun j_ hj_ hx_ => ?_)
  · refine kx_st 1 (pc' := 35) (L' := [some (.int x), some (.int a), some (.int b), some (.int c)]) (st' := [.int x]) (h' := kv_wd g w) rfl ?_
    refine kx_ret (v := some (.int x)) rfl ?_
    exact ⟨by unfold kx_vl; rw [if_neg (fun z => by rw [z] at h1; exact absurd h1 (by decide)), if_neg (fun z => by rw [z] at h1; exact absurd h1 (by decide)), if_neg (fun z => by rw [z] at h1; exact absurd h1 (by decide))], rfl⟩
  · match j_, hj_, hx_ with
    | 0, _, h1 => 
      have h1 : x = (-3) := Int32.toInt_inj.mp (by rw [h1]; rfl)
      refine ⟨_, 32, rfl, rfl, ?_⟩
      refine kx_st 1 (pc' := 33) (L' := [some (.int x), some (.int a), some (.int b), some (.int c)]) (st' := [.int c]) (h' := kv_wd g w) rfl ?_
      refine kx_ret (v := some (.int c)) rfl ?_
      exact ⟨by unfold kx_vl; rw [h1]; rfl, rfl⟩
    | 1, _, h1 => 
      have h1 : x = (-2) := Int32.toInt_inj.mp (by rw [h1]; rfl)
      refine ⟨_, 30, rfl, rfl, ?_⟩
      refine kx_st 1 (pc' := 31) (L' := [some (.int x), some (.int a), some (.int b), some (.int c)]) (st' := [.int b]) (h' := kv_wd g w) rfl ?_
      refine kx_ret (v := some (.int b)) rfl ?_
      exact ⟨by unfold kx_vl; rw [h1]; rfl, rfl⟩
    | 2, _, h1 => 
      have h1 : x = (-1) := Int32.toInt_inj.mp (by rw [h1]; rfl)
      refine ⟨_, 28, rfl, rfl, ?_⟩
      refine kx_st 1 (pc' := 29) (L' := [some (.int x), some (.int a), some (.int b), some (.int c)]) (st' := [.int a]) (h' := kv_wd g w) rfl ?_
      refine kx_ret (v := some (.int a)) rfl ?_
      exact ⟨by unfold kx_vl; rw [h1]; rfl, rfl⟩
/-- a stack, its top first, in a row -/
def kx_sk (f : Nat → Int32) (st : List Int32) : Prop := ∀ k, k < st.length → f k = st.getD (st.length - 1 - k) 0
theorem kx_sk_push {f : Nat → Int32} {st : List Int32} {x : Int32} (h : kx_sk f st) : kx_sk (upd f st.length x) (x :: st) := by
  intro k hk
  rw [List.length_cons] at hk ⊢
  by_cases hks : k = st.length
  · rw [hks, kx_ups, show st.length + 1 - 1 - st.length = 0 by omega]; rfl
  · rw [kx_upn hks, h k (by omega), show st.length + 1 - 1 - k = (st.length - 1 - k) + 1 by omega]; rfl
theorem kx_sk_top {f : Nat → Int32} {st : List Int32} {y x : Int32} (h : kx_sk f (y :: st)) : kx_sk (upd f st.length x) (x :: st) := by
  intro k hk
  rw [List.length_cons] at hk ⊢
  by_cases hks : k = st.length
  · rw [hks, kx_ups, show st.length + 1 - 1 - st.length = 0 by omega]; rfl
  · have := h k (by rw [List.length_cons]; omega)
    rw [List.length_cons, show st.length + 1 - 1 - k = (st.length - 1 - k) + 1 by omega] at this
    rw [kx_upn hks, this, show st.length + 1 - 1 - k = (st.length - 1 - k) + 1 by omega]; rfl
theorem kx_sk_get {f : Nat → Int32} {st : List Int32} {y : Int32} (h : kx_sk f (y :: st)) : f st.length = y := by
  have := h st.length (by rw [List.length_cons]; omega)
  rw [List.length_cons, show st.length + 1 - 1 - st.length = 0 by omega] at this
  exact this
theorem kx_sk_tl {f : Nat → Int32} {st : List Int32} {y : Int32} (h : kx_sk f (y :: st)) : kx_sk f st := by
  intro k hk
  have := h k (by rw [List.length_cons]; omega)
  rw [List.length_cons, show st.length + 1 - 1 - k = (st.length - 1 - k) + 1 by omega] at this
  exact this
def kx_hd (st : List Int32) : Int32 := match st with
  | [] => 0
  | x :: _ => x
set_option maxRecDepth 100000 in
theorem lp_worked6 {E : kv_V} {d : Nat} {g : kv_S} {w : kv_W} (a b c : Int32) (ln : Nat) (l50 : ln ≤ 50) (hl : g 6 2 = nI ln) {P : Option Value → kv_H → Prop} : ∀ (rest : List Int32) (i : Nat) (st : List Int32) (f : Nat → Int32) (x6 : Option Value), i + rest.length = ln → (∀ j, j < rest.length → g 7 (i + j) = rest.getD j 0) → kx_sk f st → st.length + kx_nv rest ≤ 25 → (∀ f', P (some (.int (kx_hd (kx_ex a b c rest st)))) (kv_wd (kv_uf g 8 f') w)) → kx_V E (d + 1) 41 6 [some (.ref 6), some (.int a), some (.int b), some (.int c), some (.int (nI st.length)), some (.int (nI i)), x6] [] (kv_wd (kv_uf g 8 f) w) P := by
  intro rest
  induction rest with
  | nil =>
    intro i st f x6 hi hg hsk hn hP
    have hi : i = ln := hi
    cases st with
    | nil =>
      refine kx_st 3 (pc' := 12) (L' := [some (.ref 6), some (.int a), some (.int b), some (.int c), some (.int (nI ([] : List Int32).length)), some (.int (nI i)), x6]) (st' := [.int ((kv_uf g 8 f) 6 2), .int (nI i)]) (h' := kv_wd (kv_uf g 8 f) w) rfl ?_
      refine kx_bi (t := 151) rfl rfl (fun (h12 : (kv_uf g 8 f) 6 2 ≤ nI i) => ?_) (fun (h12 : ¬ ((kv_uf g 8 f) 6 2 ≤ nI i)) => ?_)
      · refine kx_st 2 (pc' := 154) (L' := [some (.ref 6), some (.int a), some (.int b), some (.int c), some (.int (nI ([] : List Int32).length)), some (.int (nI i)), x6]) (st' := [.int 1, .int (nI ([] : List Int32).length)]) (h' := kv_wd (kv_uf g 8 f) w) rfl ?_
        refine kx_bi (t := 161) rfl rfl (fun (h154 : 1 ≤ nI ([] : List Int32).length) => ?_) (fun (h154 : ¬ (1 ≤ nI ([] : List Int32).length)) => ?_)
        · exact absurd h154 (by decide)
        · refine kx_st 0 (pc' := 157) (L' := [some (.ref 6), some (.int a), some (.int b), some (.int c), some (.int (nI ([] : List Int32).length)), some (.int (nI i)), x6]) (st' := []) (h' := kv_wd (kv_uf g 8 f) w) rfl ?_
          refine kx_st 2 (pc' := 170) (L' := [some (.ref 6), some (.int a), some (.int b), some (.int c), some (.int (nI ([] : List Int32).length)), some (.int (nI i)), x6]) (st' := [.int 0]) (h' := kv_wd (kv_uf g 8 f) w) rfl ?_
          refine kx_ret (v := some (.int 0)) rfl ?_
          exact hP f
      · exact absurd (by rw [show (kv_uf g 8 f) 6 2 = nI ln from hl]; exact nI_le (by omega) (by omega)) h12
    | cons y r =>
      have hn : r.length + 1 ≤ 25 := by simp only [List.length_cons] at hn; omega
      refine kx_st 3 (pc' := 12) (L' := [some (.ref 6), some (.int a), some (.int b), some (.int c), some (.int (nI (y :: r).length)), some (.int (nI i)), x6]) (st' := [.int ((kv_uf g 8 f) 6 2), .int (nI i)]) (h' := kv_wd (kv_uf g 8 f) w) rfl ?_
      refine kx_bi (t := 151) rfl rfl (fun (h12 : (kv_uf g 8 f) 6 2 ≤ nI i) => ?_) (fun (h12 : ¬ ((kv_uf g 8 f) 6 2 ≤ nI i)) => ?_)
      · refine kx_st 2 (pc' := 154) (L' := [some (.ref 6), some (.int a), some (.int b), some (.int c), some (.int (nI (y :: r).length)), some (.int (nI i)), x6]) (st' := [.int 1, .int (nI (y :: r).length)]) (h' := kv_wd (kv_uf g 8 f) w) rfl ?_
        refine kx_bi (t := 161) rfl rfl (fun (h154 : 1 ≤ nI (y :: r).length) => ?_) (fun (h154 : ¬ (1 ≤ nI (y :: r).length)) => ?_)
        · refine kx_st 5 (pc' := 169) (L' := [some (.ref 6), some (.int a), some (.int b), some (.int c), some (.int (nI (y :: r).length)), some (.int (nI i)), x6]) (st' := [.int ((nI (y :: r).length) - 1), .ref 8]) (h' := kv_wd (kv_uf g 8 f) w) rfl ?_
          refine kx_ia (k := r.length) rfl rfl (by decide) (nI_pred r.length) (by omega) (by decide) ?_
          refine kx_ret (v := some (.int ((kv_uf g 8 f) 8 r.length))) rfl ?_
          rw [show (kv_uf g 8 f) 8 r.length = y from kx_sk_get hsk]
          exact hP f
        · exact absurd (nI_le (a := 1) (b := r.length + 1) (by omega) (by omega)) h154
      · exact absurd (by rw [show (kv_uf g 8 f) 6 2 = nI ln from hl]; exact nI_le (by omega) (by omega)) h12
  | cons sg rest ih =>
    intro i st f x6 hi hg hsk hn hP
    have hi : i + (rest.length + 1) = ln := hi
    have e0 : g 7 i = sg := hg 0 (by simp)
    have hg2 : ∀ j, j < rest.length → g 7 (i + 1 + j) = rest.getD j 0 := fun j hj => by have z := hg (j + 1) (by simp; exact hj); rw [show i + (j + 1) = i + 1 + j by omega] at z; exact z
    have hn2 : kx_nv (sg :: rest) = (if -3 ≤ sg then 1 else 0) + kx_nv rest := rfl
    rw [hn2] at hn
    have ei : (kv_uf g 8 f) 7 i = sg := e0
    by_cases hv : -3 ≤ sg
    · refine kx_st 3 (pc' := 12) (L' := [some (.ref 6), some (.int a), some (.int b), some (.int c), some (.int (nI st.length)), some (.int (nI i)), x6]) (st' := [.int ((kv_uf g 8 f) 6 2), .int (nI i)]) (h' := kv_wd (kv_uf g 8 f) w) rfl ?_
      refine kx_bi (t := 151) rfl rfl (fun (h12 : (kv_uf g 8 f) 6 2 ≤ nI i) => ?_) (fun (h12 : ¬ ((kv_uf g 8 f) 6 2 ≤ nI i)) => ?_)
      · exact absurd h12 (by rw [show (kv_uf g 8 f) 6 2 = nI ln from hl]; exact nI_ge (a := i) (b := ln) (by omega) (by omega))
      · refine kx_st 0 (pc' := 15) (L' := [some (.ref 6), some (.int a), some (.int b), some (.int c), some (.int (nI st.length)), some (.int (nI i)), x6]) (st' := []) (h' := kv_wd (kv_uf g 8 f) w) rfl ?_
        refine kx_st 3 (pc' := 21) (L' := [some (.ref 6), some (.int a), some (.int b), some (.int c), some (.int (nI st.length)), some (.int (nI i)), x6]) (st' := [.int (nI i), .ref 7]) (h' := kv_wd (kv_uf g 8 f) w) rfl ?_
        refine kx_ia (k := i) rfl rfl (by decide) rfl (by omega) (by decide) ?_
        refine kx_st 2 (pc' := 26) (L' := [some (.ref 6), some (.int a), some (.int b), some (.int c), some (.int (nI st.length)), some (.int (nI i)), some (.int ((kv_uf g 8 f) 7 i))]) (st' := [.int ((kv_uf g 8 f) 7 i)]) (h' := kv_wd (kv_uf g 8 f) w) rfl ?_
        refine kx_call (z := 42) (as := [.int ((kv_uf g 8 f) 7 i)]) (rest := []) (v := some (.int (kx_b (-3 ≤ (kv_uf g 8 f) 7 i)))) (h1 := kv_wd (kv_uf g 8 f) w) rfl (ev_isValue (d := d) _) ?_
        refine kx_st 0 (pc' := 29) (L' := [some (.ref 6), some (.int a), some (.int b), some (.int c), some (.int (nI st.length)), some (.int (nI i)), some (.int ((kv_uf g 8 f) 7 i))]) (st' := [.int (kx_b (-3 ≤ (kv_uf g 8 f) 7 i))]) (h' := kv_wd (kv_uf g 8 f) w) rfl ?_
        refine kx_be (t := 63) rfl rfl (fun (h29 : ¬ (-3 ≤ (kv_uf g 8 f) 7 i)) => ?_) (fun (h29 : (-3 ≤ (kv_uf g 8 f) 7 i)) => ?_)
        · exact absurd (show -3 ≤ (kv_uf g 8 f) 7 i by rw [ei]; exact hv) h29
        · refine kx_st 0 (pc' := 32) (L' := [some (.ref 6), some (.int a), some (.int b), some (.int c), some (.int (nI st.length)), some (.int (nI i)), some (.int ((kv_uf g 8 f) 7 i))]) (st' := []) (h' := kv_wd (kv_uf g 8 f) w) rfl ?_
          refine kx_st 4 (pc' := 39) (L' := [some (.ref 6), some (.int a), some (.int b), some (.int c), some (.int (nI st.length)), some (.int (nI i)), some (.int ((kv_uf g 8 f) 7 i))]) (st' := [.int 25, .int (nI st.length)]) (h' := kv_wd (kv_uf g 8 f) w) rfl ?_
          refine kx_bi (t := 63) rfl rfl (fun (h39 : 25 ≤ nI st.length) => ?_) (fun (h39 : ¬ (25 ≤ nI st.length)) => ?_)
          · exact absurd h39 (nI_ge (a := st.length) (b := 25) (by rw [if_pos hv] at hn; omega) (by omega))
          · refine kx_st 0 (pc' := 42) (L' := [some (.ref 6), some (.int a), some (.int b), some (.int c), some (.int (nI st.length)), some (.int (nI i)), some (.int ((kv_uf g 8 f) 7 i))]) (st' := []) (h' := kv_wd (kv_uf g 8 f) w) rfl ?_
            refine kx_st 7 (pc' := 53) (L' := [some (.ref 6), some (.int a), some (.int b), some (.int c), some (.int (nI st.length)), some (.int (nI i)), some (.int ((kv_uf g 8 f) 7 i))]) (st' := [.int c, .int b, .int a, .int ((kv_uf g 8 f) 7 i), .int (nI st.length), .ref 8]) (h' := kv_wd (kv_uf g 8 f) w) rfl ?_
            refine kx_call (z := 43) (as := [.int ((kv_uf g 8 f) 7 i), .int a, .int b, .int c]) (rest := [.int (nI st.length), .ref 8]) (v := some (.int (kx_vl ((kv_uf g 8 f) 7 i) a b c))) (h1 := kv_wd (kv_uf g 8 f) w) rfl (ev_valueOf (d := d) _ a b c) ?_
            refine kx_st 0 (pc' := 56) (L' := [some (.ref 6), some (.int a), some (.int b), some (.int c), some (.int (nI st.length)), some (.int (nI i)), some (.int ((kv_uf g 8 f) 7 i))]) (st' := [.int (kx_vl ((kv_uf g 8 f) 7 i) a b c), .int (nI st.length), .ref 8]) (h' := kv_wd (kv_uf g 8 f) w) rfl ?_
            refine kx_is (k := st.length) rfl rfl (by decide) rfl (by rw [if_pos hv] at hn; omega) (by decide) ?_
            refine kx_st 4 (pc' := 6) (L' := [some (.ref 6), some (.int a), some (.int b), some (.int c), some (.int ((nI st.length) + 1)), some (.int ((nI i) + 1)), some (.int ((kv_uf g 8 f) 7 i))]) (st' := []) (h' := kv_wd (kv_up (kv_uf g 8 f) 8 st.length (kx_vl ((kv_uf g 8 f) 7 i) a b c)) w) rfl ?_
            rw [if_pos hv] at hn
            rw [ei, kv_up_uf, kv_uf_self, kv_uf_uf, ← nI_succ, ← nI_succ]
            exact ih (i + 1) (kx_vl sg a b c :: st) _ _ (by omega) hg2 (kx_sk_push hsk) (by rw [List.length_cons]; omega) (fun f' => by have z := hP f'; rw [show kx_ex a b c (sg :: rest) st = kx_ex a b c rest (kx_vl sg a b c :: st) from by show kx_ex a b c rest (kx_e1 a b c sg st) = _; unfold kx_e1; rw [if_pos hv]] at z; exact z)
    · have hnv : ¬ -3 ≤ (kv_uf g 8 f) 7 i := by rw [ei]; exact hv
      rw [if_neg hv, Nat.zero_add] at hn
      cases st with
      | nil =>
        refine kx_st 3 (pc' := 12) (L' := [some (.ref 6), some (.int a), some (.int b), some (.int c), some (.int (nI ([] : List Int32).length)), some (.int (nI i)), x6]) (st' := [.int ((kv_uf g 8 f) 6 2), .int (nI i)]) (h' := kv_wd (kv_uf g 8 f) w) rfl ?_
        refine kx_bi (t := 151) rfl rfl (fun (h12 : (kv_uf g 8 f) 6 2 ≤ nI i) => ?_) (fun (h12 : ¬ ((kv_uf g 8 f) 6 2 ≤ nI i)) => ?_)
        · exact absurd h12 (by rw [show (kv_uf g 8 f) 6 2 = nI ln from hl]; exact nI_ge (a := i) (b := ln) (by omega) (by omega))
        · refine kx_st 0 (pc' := 15) (L' := [some (.ref 6), some (.int a), some (.int b), some (.int c), some (.int (nI ([] : List Int32).length)), some (.int (nI i)), x6]) (st' := []) (h' := kv_wd (kv_uf g 8 f) w) rfl ?_
          refine kx_st 3 (pc' := 21) (L' := [some (.ref 6), some (.int a), some (.int b), some (.int c), some (.int (nI ([] : List Int32).length)), some (.int (nI i)), x6]) (st' := [.int (nI i), .ref 7]) (h' := kv_wd (kv_uf g 8 f) w) rfl ?_
          refine kx_ia (k := i) rfl rfl (by decide) rfl (by omega) (by decide) ?_
          refine kx_st 2 (pc' := 26) (L' := [some (.ref 6), some (.int a), some (.int b), some (.int c), some (.int (nI ([] : List Int32).length)), some (.int (nI i)), some (.int ((kv_uf g 8 f) 7 i))]) (st' := [.int ((kv_uf g 8 f) 7 i)]) (h' := kv_wd (kv_uf g 8 f) w) rfl ?_
          refine kx_call (z := 42) (as := [.int ((kv_uf g 8 f) 7 i)]) (rest := []) (v := some (.int (kx_b (-3 ≤ (kv_uf g 8 f) 7 i)))) (h1 := kv_wd (kv_uf g 8 f) w) rfl (ev_isValue (d := d) _) ?_
          refine kx_st 0 (pc' := 29) (L' := [some (.ref 6), some (.int a), some (.int b), some (.int c), some (.int (nI ([] : List Int32).length)), some (.int (nI i)), some (.int ((kv_uf g 8 f) 7 i))]) (st' := [.int (kx_b (-3 ≤ (kv_uf g 8 f) 7 i))]) (h' := kv_wd (kv_uf g 8 f) w) rfl ?_
          refine kx_be (t := 63) rfl rfl (fun (h29 : ¬ (-3 ≤ (kv_uf g 8 f) 7 i)) => ?_) (fun (h29 : (-3 ≤ (kv_uf g 8 f) 7 i)) => ?_)
          · refine kx_st 2 (pc' := 67) (L' := [some (.ref 6), some (.int a), some (.int b), some (.int c), some (.int (nI ([] : List Int32).length)), some (.int (nI i)), some (.int ((kv_uf g 8 f) 7 i))]) (st' := [.int (-33), .int ((kv_uf g 8 f) 7 i)]) (h' := kv_wd (kv_uf g 8 f) w) rfl ?_
            refine kx_bi (t := 105) rfl rfl (fun (h67 : ¬ (kv_uf g 8 f) 7 i = (-33)) => ?_) (fun (h67 : ¬ (¬ (kv_uf g 8 f) 7 i = (-33))) => ?_)
            · refine kx_st 2 (pc' := 108) (L' := [some (.ref 6), some (.int a), some (.int b), some (.int c), some (.int (nI ([] : List Int32).length)), some (.int (nI i)), some (.int ((kv_uf g 8 f) 7 i))]) (st' := [.int 2, .int (nI ([] : List Int32).length)]) (h' := kv_wd (kv_uf g 8 f) w) rfl ?_
              refine kx_bi (t := 145) rfl rfl (fun (h108 : nI ([] : List Int32).length < 2) => ?_) (fun (h108 : ¬ (nI ([] : List Int32).length < 2)) => ?_)
              · refine kx_st 2 (pc' := 6) (L' := [some (.ref 6), some (.int a), some (.int b), some (.int c), some (.int (nI ([] : List Int32).length)), some (.int ((nI i) + 1)), some (.int ((kv_uf g 8 f) 7 i))]) (st' := []) (h' := kv_wd (kv_uf g 8 f) w) rfl ?_
                rw [← nI_succ]
                refine ih (i + 1) [] f _ (by omega) hg2 hsk (by omega) (fun f' => ?_)
                have z := hP f'
                rw [show kx_ex a b c (sg :: rest) [] = kx_ex a b c rest [] from by show kx_ex a b c rest (kx_e1 a b c sg []) = _; unfold kx_e1; rw [if_neg hv]] at z
                exact z
              · exact absurd (by decide) h108
            · refine kx_st 0 (pc' := 70) (L' := [some (.ref 6), some (.int a), some (.int b), some (.int c), some (.int (nI ([] : List Int32).length)), some (.int (nI i)), some (.int ((kv_uf g 8 f) 7 i))]) (st' := []) (h' := kv_wd (kv_uf g 8 f) w) rfl ?_
              refine kx_st 2 (pc' := 73) (L' := [some (.ref 6), some (.int a), some (.int b), some (.int c), some (.int (nI ([] : List Int32).length)), some (.int (nI i)), some (.int ((kv_uf g 8 f) 7 i))]) (st' := [.int 1, .int (nI ([] : List Int32).length)]) (h' := kv_wd (kv_uf g 8 f) w) rfl ?_
              refine kx_bi (t := 105) rfl rfl (fun (h73 : nI ([] : List Int32).length < 1) => ?_) (fun (h73 : ¬ (nI ([] : List Int32).length < 1)) => ?_)
              · refine kx_st 2 (pc' := 108) (L' := [some (.ref 6), some (.int a), some (.int b), some (.int c), some (.int (nI ([] : List Int32).length)), some (.int (nI i)), some (.int ((kv_uf g 8 f) 7 i))]) (st' := [.int 2, .int (nI ([] : List Int32).length)]) (h' := kv_wd (kv_uf g 8 f) w) rfl ?_
                refine kx_bi (t := 145) rfl rfl (fun (h108 : nI ([] : List Int32).length < 2) => ?_) (fun (h108 : ¬ (nI ([] : List Int32).length < 2)) => ?_)
                · refine kx_st 2 (pc' := 6) (L' := [some (.ref 6), some (.int a), some (.int b), some (.int c), some (.int (nI ([] : List Int32).length)), some (.int ((nI i) + 1)), some (.int ((kv_uf g 8 f) 7 i))]) (st' := []) (h' := kv_wd (kv_uf g 8 f) w) rfl ?_
                  rw [← nI_succ]
                  refine ih (i + 1) [] f _ (by omega) hg2 hsk (by omega) (fun f' => ?_)
                  have z := hP f'
                  rw [show kx_ex a b c (sg :: rest) [] = kx_ex a b c rest [] from by show kx_ex a b c rest (kx_e1 a b c sg []) = _; unfold kx_e1; rw [if_neg hv]] at z
                  exact z
                · exact absurd (by decide) h108
              · exact absurd (by decide) h73
          · exact absurd h29 hnv
      | cons y r =>
        have hn : r.length + 1 + kx_nv rest ≤ 25 := hn
        have gy : f r.length = y := kx_sk_get hsk
        by_cases h33 : sg = -33
        · refine kx_st 3 (pc' := 12) (L' := [some (.ref 6), some (.int a), some (.int b), some (.int c), some (.int (nI (y :: r).length)), some (.int (nI i)), x6]) (st' := [.int ((kv_uf g 8 f) 6 2), .int (nI i)]) (h' := kv_wd (kv_uf g 8 f) w) rfl ?_
          refine kx_bi (t := 151) rfl rfl (fun (h12 : (kv_uf g 8 f) 6 2 ≤ nI i) => ?_) (fun (h12 : ¬ ((kv_uf g 8 f) 6 2 ≤ nI i)) => ?_)
          · exact absurd h12 (by rw [show (kv_uf g 8 f) 6 2 = nI ln from hl]; exact nI_ge (a := i) (b := ln) (by omega) (by omega))
          · refine kx_st 0 (pc' := 15) (L' := [some (.ref 6), some (.int a), some (.int b), some (.int c), some (.int (nI (y :: r).length)), some (.int (nI i)), x6]) (st' := []) (h' := kv_wd (kv_uf g 8 f) w) rfl ?_
            refine kx_st 3 (pc' := 21) (L' := [some (.ref 6), some (.int a), some (.int b), some (.int c), some (.int (nI (y :: r).length)), some (.int (nI i)), x6]) (st' := [.int (nI i), .ref 7]) (h' := kv_wd (kv_uf g 8 f) w) rfl ?_
            refine kx_ia (k := i) rfl rfl (by decide) rfl (by omega) (by decide) ?_
            refine kx_st 2 (pc' := 26) (L' := [some (.ref 6), some (.int a), some (.int b), some (.int c), some (.int (nI (y :: r).length)), some (.int (nI i)), some (.int ((kv_uf g 8 f) 7 i))]) (st' := [.int ((kv_uf g 8 f) 7 i)]) (h' := kv_wd (kv_uf g 8 f) w) rfl ?_
            refine kx_call (z := 42) (as := [.int ((kv_uf g 8 f) 7 i)]) (rest := []) (v := some (.int (kx_b (-3 ≤ (kv_uf g 8 f) 7 i)))) (h1 := kv_wd (kv_uf g 8 f) w) rfl (ev_isValue (d := d) _) ?_
            refine kx_st 0 (pc' := 29) (L' := [some (.ref 6), some (.int a), some (.int b), some (.int c), some (.int (nI (y :: r).length)), some (.int (nI i)), some (.int ((kv_uf g 8 f) 7 i))]) (st' := [.int (kx_b (-3 ≤ (kv_uf g 8 f) 7 i))]) (h' := kv_wd (kv_uf g 8 f) w) rfl ?_
            refine kx_be (t := 63) rfl rfl (fun (h29 : ¬ (-3 ≤ (kv_uf g 8 f) 7 i)) => ?_) (fun (h29 : (-3 ≤ (kv_uf g 8 f) 7 i)) => ?_)
            · refine kx_st 2 (pc' := 67) (L' := [some (.ref 6), some (.int a), some (.int b), some (.int c), some (.int (nI (y :: r).length)), some (.int (nI i)), some (.int ((kv_uf g 8 f) 7 i))]) (st' := [.int (-33), .int ((kv_uf g 8 f) 7 i)]) (h' := kv_wd (kv_uf g 8 f) w) rfl ?_
              refine kx_bi (t := 105) rfl rfl (fun (h67 : ¬ (kv_uf g 8 f) 7 i = (-33)) => ?_) (fun (h67 : ¬ (¬ (kv_uf g 8 f) 7 i = (-33))) => ?_)
              · exact absurd (show (kv_uf g 8 f) 7 i = -33 by rw [ei]; exact h33) h67
              · refine kx_st 0 (pc' := 70) (L' := [some (.ref 6), some (.int a), some (.int b), some (.int c), some (.int (nI (y :: r).length)), some (.int (nI i)), some (.int ((kv_uf g 8 f) 7 i))]) (st' := []) (h' := kv_wd (kv_uf g 8 f) w) rfl ?_
                refine kx_st 2 (pc' := 73) (L' := [some (.ref 6), some (.int a), some (.int b), some (.int c), some (.int (nI (y :: r).length)), some (.int (nI i)), some (.int ((kv_uf g 8 f) 7 i))]) (st' := [.int 1, .int (nI (y :: r).length)]) (h' := kv_wd (kv_uf g 8 f) w) rfl ?_
                refine kx_bi (t := 105) rfl rfl (fun (h73 : nI (y :: r).length < 1) => ?_) (fun (h73 : ¬ (nI (y :: r).length < 1)) => ?_)
                · exact absurd h73 (nI_nlt (a := r.length + 1) (b := 1) (by omega) (by omega))
                · refine kx_st 0 (pc' := 76) (L' := [some (.ref 6), some (.int a), some (.int b), some (.int c), some (.int (nI (y :: r).length)), some (.int (nI i)), some (.int ((kv_uf g 8 f) 7 i))]) (st' := []) (h' := kv_wd (kv_uf g 8 f) w) rfl ?_
                  refine kx_st 10 (pc' := 92) (L' := [some (.ref 6), some (.int a), some (.int b), some (.int c), some (.int (nI (y :: r).length)), some (.int (nI i)), some (.int ((kv_uf g 8 f) 7 i))]) (st' := [.int ((nI (y :: r).length) - 1), .ref 8, .int ((nI (y :: r).length) - 1), .ref 8]) (h' := kv_wd (kv_uf g 8 f) w) rfl ?_
                  refine kx_ia (k := r.length) rfl rfl (by decide) (nI_pred r.length) (by omega) (by decide) ?_
                  refine kx_bc (t := 100) rfl rfl (fun (h93 : ¬ (kv_uf g 8 f) 8 r.length = 0) => ?_) (fun (h93 : ¬ (¬ (kv_uf g 8 f) 8 r.length = 0)) => ?_)
                  · refine kx_st 1 (pc' := 101) (L' := [some (.ref 6), some (.int a), some (.int b), some (.int c), some (.int (nI (y :: r).length)), some (.int (nI i)), some (.int ((kv_uf g 8 f) 7 i))]) (st' := [.int 0, .int ((nI (y :: r).length) - 1), .ref 8]) (h' := kv_wd (kv_uf g 8 f) w) rfl ?_
                    refine kx_is (k := r.length) rfl rfl (by decide) (nI_pred r.length) (by omega) (by decide) ?_
                    refine kx_st 3 (pc' := 6) (L' := [some (.ref 6), some (.int a), some (.int b), some (.int c), some (.int (nI (y :: r).length)), some (.int ((nI i) + 1)), some (.int ((kv_uf g 8 f) 7 i))]) (st' := []) (h' := kv_wd (kv_up (kv_uf g 8 f) 8 r.length 0) w) rfl ?_
                    rw [kv_up_uf, kv_uf_self, kv_uf_uf, ← nI_succ]
                    refine ih (i + 1) (0 :: r) _ _ (by omega) hg2 (kx_sk_top hsk) (by rw [List.length_cons]; omega) (fun f' => ?_)
                    have z := hP f'
                    rw [show kx_ex a b c (sg :: rest) (y :: r) = kx_ex a b c rest (0 :: r) from by show kx_ex a b c rest (kx_e1 a b c sg (y :: r)) = _; unfold kx_e1; rw [if_neg hv]; dsimp only; rw [if_pos h33, if_neg (show ¬ y = 0 by rw [← gy]; exact h93)]] at z
                    exact z
                  · refine kx_st 0 (pc' := 96) (L' := [some (.ref 6), some (.int a), some (.int b), some (.int c), some (.int (nI (y :: r).length)), some (.int (nI i)), some (.int ((kv_uf g 8 f) 7 i))]) (st' := [.int ((nI (y :: r).length) - 1), .ref 8]) (h' := kv_wd (kv_uf g 8 f) w) rfl ?_
                    refine kx_st 2 (pc' := 101) (L' := [some (.ref 6), some (.int a), some (.int b), some (.int c), some (.int (nI (y :: r).length)), some (.int (nI i)), some (.int ((kv_uf g 8 f) 7 i))]) (st' := [.int 1, .int ((nI (y :: r).length) - 1), .ref 8]) (h' := kv_wd (kv_uf g 8 f) w) rfl ?_
                    refine kx_is (k := r.length) rfl rfl (by decide) (nI_pred r.length) (by omega) (by decide) ?_
                    refine kx_st 3 (pc' := 6) (L' := [some (.ref 6), some (.int a), some (.int b), some (.int c), some (.int (nI (y :: r).length)), some (.int ((nI i) + 1)), some (.int ((kv_uf g 8 f) 7 i))]) (st' := []) (h' := kv_wd (kv_up (kv_uf g 8 f) 8 r.length 1) w) rfl ?_
                    rw [kv_up_uf, kv_uf_self, kv_uf_uf, ← nI_succ]
                    refine ih (i + 1) (1 :: r) _ _ (by omega) hg2 (kx_sk_top hsk) (by rw [List.length_cons]; omega) (fun f' => ?_)
                    have z := hP f'
                    rw [show kx_ex a b c (sg :: rest) (y :: r) = kx_ex a b c rest (1 :: r) from by show kx_ex a b c rest (kx_e1 a b c sg (y :: r)) = _; unfold kx_e1; rw [if_neg hv]; dsimp only; rw [if_pos h33, if_pos (show y = 0 by rw [← gy]; exact Classical.not_not.mp h93)]] at z
                    exact z
            · exact absurd h29 hnv
        · have h33b : ¬ (kv_uf g 8 f) 7 i = -33 := by rw [ei]; exact h33
          cases r with
          | nil =>
            refine kx_st 3 (pc' := 12) (L' := [some (.ref 6), some (.int a), some (.int b), some (.int c), some (.int (nI ([y] : List Int32).length)), some (.int (nI i)), x6]) (st' := [.int ((kv_uf g 8 f) 6 2), .int (nI i)]) (h' := kv_wd (kv_uf g 8 f) w) rfl ?_
            refine kx_bi (t := 151) rfl rfl (fun (h12 : (kv_uf g 8 f) 6 2 ≤ nI i) => ?_) (fun (h12 : ¬ ((kv_uf g 8 f) 6 2 ≤ nI i)) => ?_)
            · exact absurd h12 (by rw [show (kv_uf g 8 f) 6 2 = nI ln from hl]; exact nI_ge (a := i) (b := ln) (by omega) (by omega))
            · refine kx_st 0 (pc' := 15) (L' := [some (.ref 6), some (.int a), some (.int b), some (.int c), some (.int (nI ([y] : List Int32).length)), some (.int (nI i)), x6]) (st' := []) (h' := kv_wd (kv_uf g 8 f) w) rfl ?_
              refine kx_st 3 (pc' := 21) (L' := [some (.ref 6), some (.int a), some (.int b), some (.int c), some (.int (nI ([y] : List Int32).length)), some (.int (nI i)), x6]) (st' := [.int (nI i), .ref 7]) (h' := kv_wd (kv_uf g 8 f) w) rfl ?_
              refine kx_ia (k := i) rfl rfl (by decide) rfl (by omega) (by decide) ?_
              refine kx_st 2 (pc' := 26) (L' := [some (.ref 6), some (.int a), some (.int b), some (.int c), some (.int (nI ([y] : List Int32).length)), some (.int (nI i)), some (.int ((kv_uf g 8 f) 7 i))]) (st' := [.int ((kv_uf g 8 f) 7 i)]) (h' := kv_wd (kv_uf g 8 f) w) rfl ?_
              refine kx_call (z := 42) (as := [.int ((kv_uf g 8 f) 7 i)]) (rest := []) (v := some (.int (kx_b (-3 ≤ (kv_uf g 8 f) 7 i)))) (h1 := kv_wd (kv_uf g 8 f) w) rfl (ev_isValue (d := d) _) ?_
              refine kx_st 0 (pc' := 29) (L' := [some (.ref 6), some (.int a), some (.int b), some (.int c), some (.int (nI ([y] : List Int32).length)), some (.int (nI i)), some (.int ((kv_uf g 8 f) 7 i))]) (st' := [.int (kx_b (-3 ≤ (kv_uf g 8 f) 7 i))]) (h' := kv_wd (kv_uf g 8 f) w) rfl ?_
              refine kx_be (t := 63) rfl rfl (fun (h29 : ¬ (-3 ≤ (kv_uf g 8 f) 7 i)) => ?_) (fun (h29 : (-3 ≤ (kv_uf g 8 f) 7 i)) => ?_)
              · refine kx_st 2 (pc' := 67) (L' := [some (.ref 6), some (.int a), some (.int b), some (.int c), some (.int (nI ([y] : List Int32).length)), some (.int (nI i)), some (.int ((kv_uf g 8 f) 7 i))]) (st' := [.int (-33), .int ((kv_uf g 8 f) 7 i)]) (h' := kv_wd (kv_uf g 8 f) w) rfl ?_
                refine kx_bi (t := 105) rfl rfl (fun (h67 : ¬ (kv_uf g 8 f) 7 i = (-33)) => ?_) (fun (h67 : ¬ (¬ (kv_uf g 8 f) 7 i = (-33))) => ?_)
                · refine kx_st 2 (pc' := 108) (L' := [some (.ref 6), some (.int a), some (.int b), some (.int c), some (.int (nI ([y] : List Int32).length)), some (.int (nI i)), some (.int ((kv_uf g 8 f) 7 i))]) (st' := [.int 2, .int (nI ([y] : List Int32).length)]) (h' := kv_wd (kv_uf g 8 f) w) rfl ?_
                  refine kx_bi (t := 145) rfl rfl (fun (h108 : nI ([y] : List Int32).length < 2) => ?_) (fun (h108 : ¬ (nI ([y] : List Int32).length < 2)) => ?_)
                  · refine kx_st 2 (pc' := 6) (L' := [some (.ref 6), some (.int a), some (.int b), some (.int c), some (.int (nI ([y] : List Int32).length)), some (.int ((nI i) + 1)), some (.int ((kv_uf g 8 f) 7 i))]) (st' := []) (h' := kv_wd (kv_uf g 8 f) w) rfl ?_
                    rw [← nI_succ]
                    refine ih (i + 1) [y] f _ (by omega) hg2 hsk (by simp only [List.length_cons, List.length_nil] at hn ⊢; omega) (fun f' => ?_)
                    have z := hP f'
                    rw [show kx_ex a b c (sg :: rest) [y] = kx_ex a b c rest [y] from by show kx_ex a b c rest (kx_e1 a b c sg [y]) = _; unfold kx_e1; rw [if_neg hv]; dsimp only; rw [if_neg h33]] at z
                    exact z
                  · exact absurd (show nI 1 < 2 by decide) h108
                · exact absurd (Classical.not_not.mp h67) h33b
              · exact absurd h29 hnv
          | cons x r =>
            have hn : r.length + 1 + 1 + kx_nv rest ≤ 25 := hn
            have gy : f (r.length + 1) = y := gy
            have gx : f r.length = x := kx_sk_get (kx_sk_tl hsk)
            have p1 : nI (y :: x :: r).length + -1 = nI (r.length + 1) := by show nI (r.length + 1 + 1) + -1 = _; rw [nI_succ (r.length + 1)]; grind
            refine kx_st 3 (pc' := 12) (L' := [some (.ref 6), some (.int a), some (.int b), some (.int c), some (.int (nI (y :: x :: r).length)), some (.int (nI i)), x6]) (st' := [.int ((kv_uf g 8 f) 6 2), .int (nI i)]) (h' := kv_wd (kv_uf g 8 f) w) rfl ?_
            refine kx_bi (t := 151) rfl rfl (fun (h12 : (kv_uf g 8 f) 6 2 ≤ nI i) => ?_) (fun (h12 : ¬ ((kv_uf g 8 f) 6 2 ≤ nI i)) => ?_)
            · exact absurd h12 (by rw [show (kv_uf g 8 f) 6 2 = nI ln from hl]; exact nI_ge (a := i) (b := ln) (by omega) (by omega))
            · refine kx_st 0 (pc' := 15) (L' := [some (.ref 6), some (.int a), some (.int b), some (.int c), some (.int (nI (y :: x :: r).length)), some (.int (nI i)), x6]) (st' := []) (h' := kv_wd (kv_uf g 8 f) w) rfl ?_
              refine kx_st 3 (pc' := 21) (L' := [some (.ref 6), some (.int a), some (.int b), some (.int c), some (.int (nI (y :: x :: r).length)), some (.int (nI i)), x6]) (st' := [.int (nI i), .ref 7]) (h' := kv_wd (kv_uf g 8 f) w) rfl ?_
              refine kx_ia (k := i) rfl rfl (by decide) rfl (by omega) (by decide) ?_
              refine kx_st 2 (pc' := 26) (L' := [some (.ref 6), some (.int a), some (.int b), some (.int c), some (.int (nI (y :: x :: r).length)), some (.int (nI i)), some (.int ((kv_uf g 8 f) 7 i))]) (st' := [.int ((kv_uf g 8 f) 7 i)]) (h' := kv_wd (kv_uf g 8 f) w) rfl ?_
              refine kx_call (z := 42) (as := [.int ((kv_uf g 8 f) 7 i)]) (rest := []) (v := some (.int (kx_b (-3 ≤ (kv_uf g 8 f) 7 i)))) (h1 := kv_wd (kv_uf g 8 f) w) rfl (ev_isValue (d := d) _) ?_
              refine kx_st 0 (pc' := 29) (L' := [some (.ref 6), some (.int a), some (.int b), some (.int c), some (.int (nI (y :: x :: r).length)), some (.int (nI i)), some (.int ((kv_uf g 8 f) 7 i))]) (st' := [.int (kx_b (-3 ≤ (kv_uf g 8 f) 7 i))]) (h' := kv_wd (kv_uf g 8 f) w) rfl ?_
              refine kx_be (t := 63) rfl rfl (fun (h29 : ¬ (-3 ≤ (kv_uf g 8 f) 7 i)) => ?_) (fun (h29 : (-3 ≤ (kv_uf g 8 f) 7 i)) => ?_)
              · refine kx_st 2 (pc' := 67) (L' := [some (.ref 6), some (.int a), some (.int b), some (.int c), some (.int (nI (y :: x :: r).length)), some (.int (nI i)), some (.int ((kv_uf g 8 f) 7 i))]) (st' := [.int (-33), .int ((kv_uf g 8 f) 7 i)]) (h' := kv_wd (kv_uf g 8 f) w) rfl ?_
                refine kx_bi (t := 105) rfl rfl (fun (h67 : ¬ (kv_uf g 8 f) 7 i = (-33)) => ?_) (fun (h67 : ¬ (¬ (kv_uf g 8 f) 7 i = (-33))) => ?_)
                · refine kx_st 2 (pc' := 108) (L' := [some (.ref 6), some (.int a), some (.int b), some (.int c), some (.int (nI (y :: x :: r).length)), some (.int (nI i)), some (.int ((kv_uf g 8 f) 7 i))]) (st' := [.int 2, .int (nI (y :: x :: r).length)]) (h' := kv_wd (kv_uf g 8 f) w) rfl ?_
                  refine kx_bi (t := 145) rfl rfl (fun (h108 : nI (y :: x :: r).length < 2) => ?_) (fun (h108 : ¬ (nI (y :: x :: r).length < 2)) => ?_)
                  · exact absurd h108 (nI_nlt (a := r.length + 1 + 1) (b := 2) (by omega) (by omega))
                  · refine kx_st 0 (pc' := 111) (L' := [some (.ref 6), some (.int a), some (.int b), some (.int c), some (.int (nI (y :: x :: r).length)), some (.int (nI i)), some (.int ((kv_uf g 8 f) 7 i))]) (st' := []) (h' := kv_wd (kv_uf g 8 f) w) rfl ?_
                    refine kx_st 13 (pc' := 133) (L' := [some (.ref 6), some (.int a), some (.int b), some (.int c), some (.int ((nI (y :: x :: r).length) + (-1))), some (.int (nI i)), some (.int ((kv_uf g 8 f) 7 i))]) (st' := [.int (((nI (y :: x :: r).length) + (-1)) - 1), .ref 8, .int (-((kv_uf g 8 f) 7 i)), .int (((nI (y :: x :: r).length) + (-1)) - 1), .ref 8]) (h' := kv_wd (kv_uf g 8 f) w) rfl ?_
                    refine kx_ia (k := r.length) rfl rfl (by decide) (by rw [p1]; exact nI_pred r.length) (by omega) (by decide) ?_
                    refine kx_st 3 (pc' := 140) (L' := [some (.ref 6), some (.int a), some (.int b), some (.int c), some (.int ((nI (y :: x :: r).length) + (-1))), some (.int (nI i)), some (.int ((kv_uf g 8 f) 7 i))]) (st' := [.int ((nI (y :: x :: r).length) + (-1)), .ref 8, .int ((kv_uf g 8 f) 8 r.length), .int (-((kv_uf g 8 f) 7 i)), .int (((nI (y :: x :: r).length) + (-1)) - 1), .ref 8]) (h' := kv_wd (kv_uf g 8 f) w) rfl ?_
                    refine kx_ia (k := (r.length + 1)) rfl rfl (by decide) p1 (by omega) (by decide) ?_
                    refine kx_call (z := 44) (as := [.int (-((kv_uf g 8 f) 7 i)), .int ((kv_uf g 8 f) 8 r.length), .int ((kv_uf g 8 f) 8 (r.length + 1))]) (rest := [.int (((nI (y :: x :: r).length) + (-1)) - 1), .ref 8]) (v := some (.int (kx_jn (-((kv_uf g 8 f) 7 i)) ((kv_uf g 8 f) 8 r.length) ((kv_uf g 8 f) 8 (r.length + 1))))) (h1 := kv_wd (kv_uf g 8 f) w) rfl (ev_joined (d := d) _ _ _) ?_
                    refine kx_st 0 (pc' := 144) (L' := [some (.ref 6), some (.int a), some (.int b), some (.int c), some (.int ((nI (y :: x :: r).length) + (-1))), some (.int (nI i)), some (.int ((kv_uf g 8 f) 7 i))]) (st' := [.int (kx_jn (-((kv_uf g 8 f) 7 i)) ((kv_uf g 8 f) 8 r.length) ((kv_uf g 8 f) 8 (r.length + 1))), .int (((nI (y :: x :: r).length) + (-1)) - 1), .ref 8]) (h' := kv_wd (kv_uf g 8 f) w) rfl ?_
                    refine kx_is (k := r.length) rfl rfl (by decide) (by rw [p1]; exact nI_pred r.length) (by omega) (by decide) ?_
                    refine kx_st 2 (pc' := 6) (L' := [some (.ref 6), some (.int a), some (.int b), some (.int c), some (.int ((nI (y :: x :: r).length) + (-1))), some (.int ((nI i) + 1)), some (.int ((kv_uf g 8 f) 7 i))]) (st' := []) (h' := kv_wd (kv_up (kv_uf g 8 f) 8 r.length (kx_jn (-((kv_uf g 8 f) 7 i)) ((kv_uf g 8 f) 8 r.length) ((kv_uf g 8 f) 8 (r.length + 1)))) w) rfl ?_
                    rw [kv_up_uf, kv_uf_self, kv_uf_uf, p1, ← nI_succ]
                    refine ih (i + 1) (kx_jn (-sg) x y :: r) _ _ (by omega) hg2 ?_ (by rw [List.length_cons]; omega) (fun f' => ?_)
                    · rw [show -((kv_uf g 8 f) 7 i) = -sg by rw [ei]]
                      show kx_sk (upd f r.length (kx_jn (-sg) (f r.length) (f (r.length + 1)))) (kx_jn (-sg) x y :: r)
                      rw [gx, gy]
                      exact kx_sk_top (kx_sk_tl hsk)
                    · have z := hP f'
                      rw [show kx_ex a b c (sg :: rest) (y :: x :: r) = kx_ex a b c rest (kx_jn (-sg) x y :: r) from by show kx_ex a b c rest (kx_e1 a b c sg (y :: x :: r)) = _; unfold kx_e1; rw [if_neg hv]; dsimp only; rw [if_neg h33]] at z
                      exact z
                · exact absurd (Classical.not_not.mp h67) h33b
              · exact absurd h29 hnv
set_option maxRecDepth 100000 in
theorem lp_worked9 {E : kv_V} {d : Nat} {g : kv_S} {w : kv_W} (a b c : Int32) (ln : Nat) (l50 : ln ≤ 50) (hl : g 9 2 = nI ln) {P : Option Value → kv_H → Prop} : ∀ (rest : List Int32) (i : Nat) (st : List Int32) (f : Nat → Int32) (x6 : Option Value), i + rest.length = ln → (∀ j, j < rest.length → g 10 (i + j) = rest.getD j 0) → kx_sk f st → st.length + kx_nv rest ≤ 25 → (∀ f', P (some (.int (kx_hd (kx_ex a b c rest st)))) (kv_wd (kv_uf g 11 f') w)) → kx_V E (d + 1) 41 6 [some (.ref 9), some (.int a), some (.int b), some (.int c), some (.int (nI st.length)), some (.int (nI i)), x6] [] (kv_wd (kv_uf g 11 f) w) P := by
  intro rest
  induction rest with
  | nil =>
    intro i st f x6 hi hg hsk hn hP
    have hi : i = ln := hi
    cases st with
    | nil =>
      refine kx_st 3 (pc' := 12) (L' := [some (.ref 9), some (.int a), some (.int b), some (.int c), some (.int (nI ([] : List Int32).length)), some (.int (nI i)), x6]) (st' := [.int ((kv_uf g 11 f) 9 2), .int (nI i)]) (h' := kv_wd (kv_uf g 11 f) w) rfl ?_
      refine kx_bi (t := 151) rfl rfl (fun (h12 : (kv_uf g 11 f) 9 2 ≤ nI i) => ?_) (fun (h12 : ¬ ((kv_uf g 11 f) 9 2 ≤ nI i)) => ?_)
      · refine kx_st 2 (pc' := 154) (L' := [some (.ref 9), some (.int a), some (.int b), some (.int c), some (.int (nI ([] : List Int32).length)), some (.int (nI i)), x6]) (st' := [.int 1, .int (nI ([] : List Int32).length)]) (h' := kv_wd (kv_uf g 11 f) w) rfl ?_
        refine kx_bi (t := 161) rfl rfl (fun (h154 : 1 ≤ nI ([] : List Int32).length) => ?_) (fun (h154 : ¬ (1 ≤ nI ([] : List Int32).length)) => ?_)
        · exact absurd h154 (by decide)
        · refine kx_st 0 (pc' := 157) (L' := [some (.ref 9), some (.int a), some (.int b), some (.int c), some (.int (nI ([] : List Int32).length)), some (.int (nI i)), x6]) (st' := []) (h' := kv_wd (kv_uf g 11 f) w) rfl ?_
          refine kx_st 2 (pc' := 170) (L' := [some (.ref 9), some (.int a), some (.int b), some (.int c), some (.int (nI ([] : List Int32).length)), some (.int (nI i)), x6]) (st' := [.int 0]) (h' := kv_wd (kv_uf g 11 f) w) rfl ?_
          refine kx_ret (v := some (.int 0)) rfl ?_
          exact hP f
      · exact absurd (by rw [show (kv_uf g 11 f) 9 2 = nI ln from hl]; exact nI_le (by omega) (by omega)) h12
    | cons y r =>
      have hn : r.length + 1 ≤ 25 := by simp only [List.length_cons] at hn; omega
      refine kx_st 3 (pc' := 12) (L' := [some (.ref 9), some (.int a), some (.int b), some (.int c), some (.int (nI (y :: r).length)), some (.int (nI i)), x6]) (st' := [.int ((kv_uf g 11 f) 9 2), .int (nI i)]) (h' := kv_wd (kv_uf g 11 f) w) rfl ?_
      refine kx_bi (t := 151) rfl rfl (fun (h12 : (kv_uf g 11 f) 9 2 ≤ nI i) => ?_) (fun (h12 : ¬ ((kv_uf g 11 f) 9 2 ≤ nI i)) => ?_)
      · refine kx_st 2 (pc' := 154) (L' := [some (.ref 9), some (.int a), some (.int b), some (.int c), some (.int (nI (y :: r).length)), some (.int (nI i)), x6]) (st' := [.int 1, .int (nI (y :: r).length)]) (h' := kv_wd (kv_uf g 11 f) w) rfl ?_
        refine kx_bi (t := 161) rfl rfl (fun (h154 : 1 ≤ nI (y :: r).length) => ?_) (fun (h154 : ¬ (1 ≤ nI (y :: r).length)) => ?_)
        · refine kx_st 5 (pc' := 169) (L' := [some (.ref 9), some (.int a), some (.int b), some (.int c), some (.int (nI (y :: r).length)), some (.int (nI i)), x6]) (st' := [.int ((nI (y :: r).length) - 1), .ref 11]) (h' := kv_wd (kv_uf g 11 f) w) rfl ?_
          refine kx_ia (k := r.length) rfl rfl (by decide) (nI_pred r.length) (by omega) (by decide) ?_
          refine kx_ret (v := some (.int ((kv_uf g 11 f) 11 r.length))) rfl ?_
          rw [show (kv_uf g 11 f) 11 r.length = y from kx_sk_get hsk]
          exact hP f
        · exact absurd (nI_le (a := 1) (b := r.length + 1) (by omega) (by omega)) h154
      · exact absurd (by rw [show (kv_uf g 11 f) 9 2 = nI ln from hl]; exact nI_le (by omega) (by omega)) h12
  | cons sg rest ih =>
    intro i st f x6 hi hg hsk hn hP
    have hi : i + (rest.length + 1) = ln := hi
    have e0 : g 10 i = sg := hg 0 (by simp)
    have hg2 : ∀ j, j < rest.length → g 10 (i + 1 + j) = rest.getD j 0 := fun j hj => by have z := hg (j + 1) (by simp; exact hj); rw [show i + (j + 1) = i + 1 + j by omega] at z; exact z
    have hn2 : kx_nv (sg :: rest) = (if -3 ≤ sg then 1 else 0) + kx_nv rest := rfl
    rw [hn2] at hn
    have ei : (kv_uf g 11 f) 10 i = sg := e0
    by_cases hv : -3 ≤ sg
    · refine kx_st 3 (pc' := 12) (L' := [some (.ref 9), some (.int a), some (.int b), some (.int c), some (.int (nI st.length)), some (.int (nI i)), x6]) (st' := [.int ((kv_uf g 11 f) 9 2), .int (nI i)]) (h' := kv_wd (kv_uf g 11 f) w) rfl ?_
      refine kx_bi (t := 151) rfl rfl (fun (h12 : (kv_uf g 11 f) 9 2 ≤ nI i) => ?_) (fun (h12 : ¬ ((kv_uf g 11 f) 9 2 ≤ nI i)) => ?_)
      · exact absurd h12 (by rw [show (kv_uf g 11 f) 9 2 = nI ln from hl]; exact nI_ge (a := i) (b := ln) (by omega) (by omega))
      · refine kx_st 0 (pc' := 15) (L' := [some (.ref 9), some (.int a), some (.int b), some (.int c), some (.int (nI st.length)), some (.int (nI i)), x6]) (st' := []) (h' := kv_wd (kv_uf g 11 f) w) rfl ?_
        refine kx_st 3 (pc' := 21) (L' := [some (.ref 9), some (.int a), some (.int b), some (.int c), some (.int (nI st.length)), some (.int (nI i)), x6]) (st' := [.int (nI i), .ref 10]) (h' := kv_wd (kv_uf g 11 f) w) rfl ?_
        refine kx_ia (k := i) rfl rfl (by decide) rfl (by omega) (by decide) ?_
        refine kx_st 2 (pc' := 26) (L' := [some (.ref 9), some (.int a), some (.int b), some (.int c), some (.int (nI st.length)), some (.int (nI i)), some (.int ((kv_uf g 11 f) 10 i))]) (st' := [.int ((kv_uf g 11 f) 10 i)]) (h' := kv_wd (kv_uf g 11 f) w) rfl ?_
        refine kx_call (z := 42) (as := [.int ((kv_uf g 11 f) 10 i)]) (rest := []) (v := some (.int (kx_b (-3 ≤ (kv_uf g 11 f) 10 i)))) (h1 := kv_wd (kv_uf g 11 f) w) rfl (ev_isValue (d := d) _) ?_
        refine kx_st 0 (pc' := 29) (L' := [some (.ref 9), some (.int a), some (.int b), some (.int c), some (.int (nI st.length)), some (.int (nI i)), some (.int ((kv_uf g 11 f) 10 i))]) (st' := [.int (kx_b (-3 ≤ (kv_uf g 11 f) 10 i))]) (h' := kv_wd (kv_uf g 11 f) w) rfl ?_
        refine kx_be (t := 63) rfl rfl (fun (h29 : ¬ (-3 ≤ (kv_uf g 11 f) 10 i)) => ?_) (fun (h29 : (-3 ≤ (kv_uf g 11 f) 10 i)) => ?_)
        · exact absurd (show -3 ≤ (kv_uf g 11 f) 10 i by rw [ei]; exact hv) h29
        · refine kx_st 0 (pc' := 32) (L' := [some (.ref 9), some (.int a), some (.int b), some (.int c), some (.int (nI st.length)), some (.int (nI i)), some (.int ((kv_uf g 11 f) 10 i))]) (st' := []) (h' := kv_wd (kv_uf g 11 f) w) rfl ?_
          refine kx_st 4 (pc' := 39) (L' := [some (.ref 9), some (.int a), some (.int b), some (.int c), some (.int (nI st.length)), some (.int (nI i)), some (.int ((kv_uf g 11 f) 10 i))]) (st' := [.int 25, .int (nI st.length)]) (h' := kv_wd (kv_uf g 11 f) w) rfl ?_
          refine kx_bi (t := 63) rfl rfl (fun (h39 : 25 ≤ nI st.length) => ?_) (fun (h39 : ¬ (25 ≤ nI st.length)) => ?_)
          · exact absurd h39 (nI_ge (a := st.length) (b := 25) (by rw [if_pos hv] at hn; omega) (by omega))
          · refine kx_st 0 (pc' := 42) (L' := [some (.ref 9), some (.int a), some (.int b), some (.int c), some (.int (nI st.length)), some (.int (nI i)), some (.int ((kv_uf g 11 f) 10 i))]) (st' := []) (h' := kv_wd (kv_uf g 11 f) w) rfl ?_
            refine kx_st 7 (pc' := 53) (L' := [some (.ref 9), some (.int a), some (.int b), some (.int c), some (.int (nI st.length)), some (.int (nI i)), some (.int ((kv_uf g 11 f) 10 i))]) (st' := [.int c, .int b, .int a, .int ((kv_uf g 11 f) 10 i), .int (nI st.length), .ref 11]) (h' := kv_wd (kv_uf g 11 f) w) rfl ?_
            refine kx_call (z := 43) (as := [.int ((kv_uf g 11 f) 10 i), .int a, .int b, .int c]) (rest := [.int (nI st.length), .ref 11]) (v := some (.int (kx_vl ((kv_uf g 11 f) 10 i) a b c))) (h1 := kv_wd (kv_uf g 11 f) w) rfl (ev_valueOf (d := d) _ a b c) ?_
            refine kx_st 0 (pc' := 56) (L' := [some (.ref 9), some (.int a), some (.int b), some (.int c), some (.int (nI st.length)), some (.int (nI i)), some (.int ((kv_uf g 11 f) 10 i))]) (st' := [.int (kx_vl ((kv_uf g 11 f) 10 i) a b c), .int (nI st.length), .ref 11]) (h' := kv_wd (kv_uf g 11 f) w) rfl ?_
            refine kx_is (k := st.length) rfl rfl (by decide) rfl (by rw [if_pos hv] at hn; omega) (by decide) ?_
            refine kx_st 4 (pc' := 6) (L' := [some (.ref 9), some (.int a), some (.int b), some (.int c), some (.int ((nI st.length) + 1)), some (.int ((nI i) + 1)), some (.int ((kv_uf g 11 f) 10 i))]) (st' := []) (h' := kv_wd (kv_up (kv_uf g 11 f) 11 st.length (kx_vl ((kv_uf g 11 f) 10 i) a b c)) w) rfl ?_
            rw [if_pos hv] at hn
            rw [ei, kv_up_uf, kv_uf_self, kv_uf_uf, ← nI_succ, ← nI_succ]
            exact ih (i + 1) (kx_vl sg a b c :: st) _ _ (by omega) hg2 (kx_sk_push hsk) (by rw [List.length_cons]; omega) (fun f' => by have z := hP f'; rw [show kx_ex a b c (sg :: rest) st = kx_ex a b c rest (kx_vl sg a b c :: st) from by show kx_ex a b c rest (kx_e1 a b c sg st) = _; unfold kx_e1; rw [if_pos hv]] at z; exact z)
    · have hnv : ¬ -3 ≤ (kv_uf g 11 f) 10 i := by rw [ei]; exact hv
      rw [if_neg hv, Nat.zero_add] at hn
      cases st with
      | nil =>
        refine kx_st 3 (pc' := 12) (L' := [some (.ref 9), some (.int a), some (.int b), some (.int c), some (.int (nI ([] : List Int32).length)), some (.int (nI i)), x6]) (st' := [.int ((kv_uf g 11 f) 9 2), .int (nI i)]) (h' := kv_wd (kv_uf g 11 f) w) rfl ?_
        refine kx_bi (t := 151) rfl rfl (fun (h12 : (kv_uf g 11 f) 9 2 ≤ nI i) => ?_) (fun (h12 : ¬ ((kv_uf g 11 f) 9 2 ≤ nI i)) => ?_)
        · exact absurd h12 (by rw [show (kv_uf g 11 f) 9 2 = nI ln from hl]; exact nI_ge (a := i) (b := ln) (by omega) (by omega))
        · refine kx_st 0 (pc' := 15) (L' := [some (.ref 9), some (.int a), some (.int b), some (.int c), some (.int (nI ([] : List Int32).length)), some (.int (nI i)), x6]) (st' := []) (h' := kv_wd (kv_uf g 11 f) w) rfl ?_
          refine kx_st 3 (pc' := 21) (L' := [some (.ref 9), some (.int a), some (.int b), some (.int c), some (.int (nI ([] : List Int32).length)), some (.int (nI i)), x6]) (st' := [.int (nI i), .ref 10]) (h' := kv_wd (kv_uf g 11 f) w) rfl ?_
          refine kx_ia (k := i) rfl rfl (by decide) rfl (by omega) (by decide) ?_
          refine kx_st 2 (pc' := 26) (L' := [some (.ref 9), some (.int a), some (.int b), some (.int c), some (.int (nI ([] : List Int32).length)), some (.int (nI i)), some (.int ((kv_uf g 11 f) 10 i))]) (st' := [.int ((kv_uf g 11 f) 10 i)]) (h' := kv_wd (kv_uf g 11 f) w) rfl ?_
          refine kx_call (z := 42) (as := [.int ((kv_uf g 11 f) 10 i)]) (rest := []) (v := some (.int (kx_b (-3 ≤ (kv_uf g 11 f) 10 i)))) (h1 := kv_wd (kv_uf g 11 f) w) rfl (ev_isValue (d := d) _) ?_
          refine kx_st 0 (pc' := 29) (L' := [some (.ref 9), some (.int a), some (.int b), some (.int c), some (.int (nI ([] : List Int32).length)), some (.int (nI i)), some (.int ((kv_uf g 11 f) 10 i))]) (st' := [.int (kx_b (-3 ≤ (kv_uf g 11 f) 10 i))]) (h' := kv_wd (kv_uf g 11 f) w) rfl ?_
          refine kx_be (t := 63) rfl rfl (fun (h29 : ¬ (-3 ≤ (kv_uf g 11 f) 10 i)) => ?_) (fun (h29 : (-3 ≤ (kv_uf g 11 f) 10 i)) => ?_)
          · refine kx_st 2 (pc' := 67) (L' := [some (.ref 9), some (.int a), some (.int b), some (.int c), some (.int (nI ([] : List Int32).length)), some (.int (nI i)), some (.int ((kv_uf g 11 f) 10 i))]) (st' := [.int (-33), .int ((kv_uf g 11 f) 10 i)]) (h' := kv_wd (kv_uf g 11 f) w) rfl ?_
            refine kx_bi (t := 105) rfl rfl (fun (h67 : ¬ (kv_uf g 11 f) 10 i = (-33)) => ?_) (fun (h67 : ¬ (¬ (kv_uf g 11 f) 10 i = (-33))) => ?_)
            · refine kx_st 2 (pc' := 108) (L' := [some (.ref 9), some (.int a), some (.int b), some (.int c), some (.int (nI ([] : List Int32).length)), some (.int (nI i)), some (.int ((kv_uf g 11 f) 10 i))]) (st' := [.int 2, .int (nI ([] : List Int32).length)]) (h' := kv_wd (kv_uf g 11 f) w) rfl ?_
              refine kx_bi (t := 145) rfl rfl (fun (h108 : nI ([] : List Int32).length < 2) => ?_) (fun (h108 : ¬ (nI ([] : List Int32).length < 2)) => ?_)
              · refine kx_st 2 (pc' := 6) (L' := [some (.ref 9), some (.int a), some (.int b), some (.int c), some (.int (nI ([] : List Int32).length)), some (.int ((nI i) + 1)), some (.int ((kv_uf g 11 f) 10 i))]) (st' := []) (h' := kv_wd (kv_uf g 11 f) w) rfl ?_
                rw [← nI_succ]
                refine ih (i + 1) [] f _ (by omega) hg2 hsk (by omega) (fun f' => ?_)
                have z := hP f'
                rw [show kx_ex a b c (sg :: rest) [] = kx_ex a b c rest [] from by show kx_ex a b c rest (kx_e1 a b c sg []) = _; unfold kx_e1; rw [if_neg hv]] at z
                exact z
              · exact absurd (by decide) h108
            · refine kx_st 0 (pc' := 70) (L' := [some (.ref 9), some (.int a), some (.int b), some (.int c), some (.int (nI ([] : List Int32).length)), some (.int (nI i)), some (.int ((kv_uf g 11 f) 10 i))]) (st' := []) (h' := kv_wd (kv_uf g 11 f) w) rfl ?_
              refine kx_st 2 (pc' := 73) (L' := [some (.ref 9), some (.int a), some (.int b), some (.int c), some (.int (nI ([] : List Int32).length)), some (.int (nI i)), some (.int ((kv_uf g 11 f) 10 i))]) (st' := [.int 1, .int (nI ([] : List Int32).length)]) (h' := kv_wd (kv_uf g 11 f) w) rfl ?_
              refine kx_bi (t := 105) rfl rfl (fun (h73 : nI ([] : List Int32).length < 1) => ?_) (fun (h73 : ¬ (nI ([] : List Int32).length < 1)) => ?_)
              · refine kx_st 2 (pc' := 108) (L' := [some (.ref 9), some (.int a), some (.int b), some (.int c), some (.int (nI ([] : List Int32).length)), some (.int (nI i)), some (.int ((kv_uf g 11 f) 10 i))]) (st' := [.int 2, .int (nI ([] : List Int32).length)]) (h' := kv_wd (kv_uf g 11 f) w) rfl ?_
                refine kx_bi (t := 145) rfl rfl (fun (h108 : nI ([] : List Int32).length < 2) => ?_) (fun (h108 : ¬ (nI ([] : List Int32).length < 2)) => ?_)
                · refine kx_st 2 (pc' := 6) (L' := [some (.ref 9), some (.int a), some (.int b), some (.int c), some (.int (nI ([] : List Int32).length)), some (.int ((nI i) + 1)), some (.int ((kv_uf g 11 f) 10 i))]) (st' := []) (h' := kv_wd (kv_uf g 11 f) w) rfl ?_
                  rw [← nI_succ]
                  refine ih (i + 1) [] f _ (by omega) hg2 hsk (by omega) (fun f' => ?_)
                  have z := hP f'
                  rw [show kx_ex a b c (sg :: rest) [] = kx_ex a b c rest [] from by show kx_ex a b c rest (kx_e1 a b c sg []) = _; unfold kx_e1; rw [if_neg hv]] at z
                  exact z
                · exact absurd (by decide) h108
              · exact absurd (by decide) h73
          · exact absurd h29 hnv
      | cons y r =>
        have hn : r.length + 1 + kx_nv rest ≤ 25 := hn
        have gy : f r.length = y := kx_sk_get hsk
        by_cases h33 : sg = -33
        · refine kx_st 3 (pc' := 12) (L' := [some (.ref 9), some (.int a), some (.int b), some (.int c), some (.int (nI (y :: r).length)), some (.int (nI i)), x6]) (st' := [.int ((kv_uf g 11 f) 9 2), .int (nI i)]) (h' := kv_wd (kv_uf g 11 f) w) rfl ?_
          refine kx_bi (t := 151) rfl rfl (fun (h12 : (kv_uf g 11 f) 9 2 ≤ nI i) => ?_) (fun (h12 : ¬ ((kv_uf g 11 f) 9 2 ≤ nI i)) => ?_)
          · exact absurd h12 (by rw [show (kv_uf g 11 f) 9 2 = nI ln from hl]; exact nI_ge (a := i) (b := ln) (by omega) (by omega))
          · refine kx_st 0 (pc' := 15) (L' := [some (.ref 9), some (.int a), some (.int b), some (.int c), some (.int (nI (y :: r).length)), some (.int (nI i)), x6]) (st' := []) (h' := kv_wd (kv_uf g 11 f) w) rfl ?_
            refine kx_st 3 (pc' := 21) (L' := [some (.ref 9), some (.int a), some (.int b), some (.int c), some (.int (nI (y :: r).length)), some (.int (nI i)), x6]) (st' := [.int (nI i), .ref 10]) (h' := kv_wd (kv_uf g 11 f) w) rfl ?_
            refine kx_ia (k := i) rfl rfl (by decide) rfl (by omega) (by decide) ?_
            refine kx_st 2 (pc' := 26) (L' := [some (.ref 9), some (.int a), some (.int b), some (.int c), some (.int (nI (y :: r).length)), some (.int (nI i)), some (.int ((kv_uf g 11 f) 10 i))]) (st' := [.int ((kv_uf g 11 f) 10 i)]) (h' := kv_wd (kv_uf g 11 f) w) rfl ?_
            refine kx_call (z := 42) (as := [.int ((kv_uf g 11 f) 10 i)]) (rest := []) (v := some (.int (kx_b (-3 ≤ (kv_uf g 11 f) 10 i)))) (h1 := kv_wd (kv_uf g 11 f) w) rfl (ev_isValue (d := d) _) ?_
            refine kx_st 0 (pc' := 29) (L' := [some (.ref 9), some (.int a), some (.int b), some (.int c), some (.int (nI (y :: r).length)), some (.int (nI i)), some (.int ((kv_uf g 11 f) 10 i))]) (st' := [.int (kx_b (-3 ≤ (kv_uf g 11 f) 10 i))]) (h' := kv_wd (kv_uf g 11 f) w) rfl ?_
            refine kx_be (t := 63) rfl rfl (fun (h29 : ¬ (-3 ≤ (kv_uf g 11 f) 10 i)) => ?_) (fun (h29 : (-3 ≤ (kv_uf g 11 f) 10 i)) => ?_)
            · refine kx_st 2 (pc' := 67) (L' := [some (.ref 9), some (.int a), some (.int b), some (.int c), some (.int (nI (y :: r).length)), some (.int (nI i)), some (.int ((kv_uf g 11 f) 10 i))]) (st' := [.int (-33), .int ((kv_uf g 11 f) 10 i)]) (h' := kv_wd (kv_uf g 11 f) w) rfl ?_
              refine kx_bi (t := 105) rfl rfl (fun (h67 : ¬ (kv_uf g 11 f) 10 i = (-33)) => ?_) (fun (h67 : ¬ (¬ (kv_uf g 11 f) 10 i = (-33))) => ?_)
              · exact absurd (show (kv_uf g 11 f) 10 i = -33 by rw [ei]; exact h33) h67
              · refine kx_st 0 (pc' := 70) (L' := [some (.ref 9), some (.int a), some (.int b), some (.int c), some (.int (nI (y :: r).length)), some (.int (nI i)), some (.int ((kv_uf g 11 f) 10 i))]) (st' := []) (h' := kv_wd (kv_uf g 11 f) w) rfl ?_
                refine kx_st 2 (pc' := 73) (L' := [some (.ref 9), some (.int a), some (.int b), some (.int c), some (.int (nI (y :: r).length)), some (.int (nI i)), some (.int ((kv_uf g 11 f) 10 i))]) (st' := [.int 1, .int (nI (y :: r).length)]) (h' := kv_wd (kv_uf g 11 f) w) rfl ?_
                refine kx_bi (t := 105) rfl rfl (fun (h73 : nI (y :: r).length < 1) => ?_) (fun (h73 : ¬ (nI (y :: r).length < 1)) => ?_)
                · exact absurd h73 (nI_nlt (a := r.length + 1) (b := 1) (by omega) (by omega))
                · refine kx_st 0 (pc' := 76) (L' := [some (.ref 9), some (.int a), some (.int b), some (.int c), some (.int (nI (y :: r).length)), some (.int (nI i)), some (.int ((kv_uf g 11 f) 10 i))]) (st' := []) (h' := kv_wd (kv_uf g 11 f) w) rfl ?_
                  refine kx_st 10 (pc' := 92) (L' := [some (.ref 9), some (.int a), some (.int b), some (.int c), some (.int (nI (y :: r).length)), some (.int (nI i)), some (.int ((kv_uf g 11 f) 10 i))]) (st' := [.int ((nI (y :: r).length) - 1), .ref 11, .int ((nI (y :: r).length) - 1), .ref 11]) (h' := kv_wd (kv_uf g 11 f) w) rfl ?_
                  refine kx_ia (k := r.length) rfl rfl (by decide) (nI_pred r.length) (by omega) (by decide) ?_
                  refine kx_bc (t := 100) rfl rfl (fun (h93 : ¬ (kv_uf g 11 f) 11 r.length = 0) => ?_) (fun (h93 : ¬ (¬ (kv_uf g 11 f) 11 r.length = 0)) => ?_)
                  · refine kx_st 1 (pc' := 101) (L' := [some (.ref 9), some (.int a), some (.int b), some (.int c), some (.int (nI (y :: r).length)), some (.int (nI i)), some (.int ((kv_uf g 11 f) 10 i))]) (st' := [.int 0, .int ((nI (y :: r).length) - 1), .ref 11]) (h' := kv_wd (kv_uf g 11 f) w) rfl ?_
                    refine kx_is (k := r.length) rfl rfl (by decide) (nI_pred r.length) (by omega) (by decide) ?_
                    refine kx_st 3 (pc' := 6) (L' := [some (.ref 9), some (.int a), some (.int b), some (.int c), some (.int (nI (y :: r).length)), some (.int ((nI i) + 1)), some (.int ((kv_uf g 11 f) 10 i))]) (st' := []) (h' := kv_wd (kv_up (kv_uf g 11 f) 11 r.length 0) w) rfl ?_
                    rw [kv_up_uf, kv_uf_self, kv_uf_uf, ← nI_succ]
                    refine ih (i + 1) (0 :: r) _ _ (by omega) hg2 (kx_sk_top hsk) (by rw [List.length_cons]; omega) (fun f' => ?_)
                    have z := hP f'
                    rw [show kx_ex a b c (sg :: rest) (y :: r) = kx_ex a b c rest (0 :: r) from by show kx_ex a b c rest (kx_e1 a b c sg (y :: r)) = _; unfold kx_e1; rw [if_neg hv]; dsimp only; rw [if_pos h33, if_neg (show ¬ y = 0 by rw [← gy]; exact h93)]] at z
                    exact z
                  · refine kx_st 0 (pc' := 96) (L' := [some (.ref 9), some (.int a), some (.int b), some (.int c), some (.int (nI (y :: r).length)), some (.int (nI i)), some (.int ((kv_uf g 11 f) 10 i))]) (st' := [.int ((nI (y :: r).length) - 1), .ref 11]) (h' := kv_wd (kv_uf g 11 f) w) rfl ?_
                    refine kx_st 2 (pc' := 101) (L' := [some (.ref 9), some (.int a), some (.int b), some (.int c), some (.int (nI (y :: r).length)), some (.int (nI i)), some (.int ((kv_uf g 11 f) 10 i))]) (st' := [.int 1, .int ((nI (y :: r).length) - 1), .ref 11]) (h' := kv_wd (kv_uf g 11 f) w) rfl ?_
                    refine kx_is (k := r.length) rfl rfl (by decide) (nI_pred r.length) (by omega) (by decide) ?_
                    refine kx_st 3 (pc' := 6) (L' := [some (.ref 9), some (.int a), some (.int b), some (.int c), some (.int (nI (y :: r).length)), some (.int ((nI i) + 1)), some (.int ((kv_uf g 11 f) 10 i))]) (st' := []) (h' := kv_wd (kv_up (kv_uf g 11 f) 11 r.length 1) w) rfl ?_
                    rw [kv_up_uf, kv_uf_self, kv_uf_uf, ← nI_succ]
                    refine ih (i + 1) (1 :: r) _ _ (by omega) hg2 (kx_sk_top hsk) (by rw [List.length_cons]; omega) (fun f' => ?_)
                    have z := hP f'
                    rw [show kx_ex a b c (sg :: rest) (y :: r) = kx_ex a b c rest (1 :: r) from by show kx_ex a b c rest (kx_e1 a b c sg (y :: r)) = _; unfold kx_e1; rw [if_neg hv]; dsimp only; rw [if_pos h33, if_pos (show y = 0 by rw [← gy]; exact Classical.not_not.mp h93)]] at z
                    exact z
            · exact absurd h29 hnv
        · have h33b : ¬ (kv_uf g 11 f) 10 i = -33 := by rw [ei]; exact h33
          cases r with
          | nil =>
            refine kx_st 3 (pc' := 12) (L' := [some (.ref 9), some (.int a), some (.int b), some (.int c), some (.int (nI ([y] : List Int32).length)), some (.int (nI i)), x6]) (st' := [.int ((kv_uf g 11 f) 9 2), .int (nI i)]) (h' := kv_wd (kv_uf g 11 f) w) rfl ?_
            refine kx_bi (t := 151) rfl rfl (fun (h12 : (kv_uf g 11 f) 9 2 ≤ nI i) => ?_) (fun (h12 : ¬ ((kv_uf g 11 f) 9 2 ≤ nI i)) => ?_)
            · exact absurd h12 (by rw [show (kv_uf g 11 f) 9 2 = nI ln from hl]; exact nI_ge (a := i) (b := ln) (by omega) (by omega))
            · refine kx_st 0 (pc' := 15) (L' := [some (.ref 9), some (.int a), some (.int b), some (.int c), some (.int (nI ([y] : List Int32).length)), some (.int (nI i)), x6]) (st' := []) (h' := kv_wd (kv_uf g 11 f) w) rfl ?_
              refine kx_st 3 (pc' := 21) (L' := [some (.ref 9), some (.int a), some (.int b), some (.int c), some (.int (nI ([y] : List Int32).length)), some (.int (nI i)), x6]) (st' := [.int (nI i), .ref 10]) (h' := kv_wd (kv_uf g 11 f) w) rfl ?_
              refine kx_ia (k := i) rfl rfl (by decide) rfl (by omega) (by decide) ?_
              refine kx_st 2 (pc' := 26) (L' := [some (.ref 9), some (.int a), some (.int b), some (.int c), some (.int (nI ([y] : List Int32).length)), some (.int (nI i)), some (.int ((kv_uf g 11 f) 10 i))]) (st' := [.int ((kv_uf g 11 f) 10 i)]) (h' := kv_wd (kv_uf g 11 f) w) rfl ?_
              refine kx_call (z := 42) (as := [.int ((kv_uf g 11 f) 10 i)]) (rest := []) (v := some (.int (kx_b (-3 ≤ (kv_uf g 11 f) 10 i)))) (h1 := kv_wd (kv_uf g 11 f) w) rfl (ev_isValue (d := d) _) ?_
              refine kx_st 0 (pc' := 29) (L' := [some (.ref 9), some (.int a), some (.int b), some (.int c), some (.int (nI ([y] : List Int32).length)), some (.int (nI i)), some (.int ((kv_uf g 11 f) 10 i))]) (st' := [.int (kx_b (-3 ≤ (kv_uf g 11 f) 10 i))]) (h' := kv_wd (kv_uf g 11 f) w) rfl ?_
              refine kx_be (t := 63) rfl rfl (fun (h29 : ¬ (-3 ≤ (kv_uf g 11 f) 10 i)) => ?_) (fun (h29 : (-3 ≤ (kv_uf g 11 f) 10 i)) => ?_)
              · refine kx_st 2 (pc' := 67) (L' := [some (.ref 9), some (.int a), some (.int b), some (.int c), some (.int (nI ([y] : List Int32).length)), some (.int (nI i)), some (.int ((kv_uf g 11 f) 10 i))]) (st' := [.int (-33), .int ((kv_uf g 11 f) 10 i)]) (h' := kv_wd (kv_uf g 11 f) w) rfl ?_
                refine kx_bi (t := 105) rfl rfl (fun (h67 : ¬ (kv_uf g 11 f) 10 i = (-33)) => ?_) (fun (h67 : ¬ (¬ (kv_uf g 11 f) 10 i = (-33))) => ?_)
                · refine kx_st 2 (pc' := 108) (L' := [some (.ref 9), some (.int a), some (.int b), some (.int c), some (.int (nI ([y] : List Int32).length)), some (.int (nI i)), some (.int ((kv_uf g 11 f) 10 i))]) (st' := [.int 2, .int (nI ([y] : List Int32).length)]) (h' := kv_wd (kv_uf g 11 f) w) rfl ?_
                  refine kx_bi (t := 145) rfl rfl (fun (h108 : nI ([y] : List Int32).length < 2) => ?_) (fun (h108 : ¬ (nI ([y] : List Int32).length < 2)) => ?_)
                  · refine kx_st 2 (pc' := 6) (L' := [some (.ref 9), some (.int a), some (.int b), some (.int c), some (.int (nI ([y] : List Int32).length)), some (.int ((nI i) + 1)), some (.int ((kv_uf g 11 f) 10 i))]) (st' := []) (h' := kv_wd (kv_uf g 11 f) w) rfl ?_
                    rw [← nI_succ]
                    refine ih (i + 1) [y] f _ (by omega) hg2 hsk (by simp only [List.length_cons, List.length_nil] at hn ⊢; omega) (fun f' => ?_)
                    have z := hP f'
                    rw [show kx_ex a b c (sg :: rest) [y] = kx_ex a b c rest [y] from by show kx_ex a b c rest (kx_e1 a b c sg [y]) = _; unfold kx_e1; rw [if_neg hv]; dsimp only; rw [if_neg h33]] at z
                    exact z
                  · exact absurd (show nI 1 < 2 by decide) h108
                · exact absurd (Classical.not_not.mp h67) h33b
              · exact absurd h29 hnv
          | cons x r =>
            have hn : r.length + 1 + 1 + kx_nv rest ≤ 25 := hn
            have gy : f (r.length + 1) = y := gy
            have gx : f r.length = x := kx_sk_get (kx_sk_tl hsk)
            have p1 : nI (y :: x :: r).length + -1 = nI (r.length + 1) := by show nI (r.length + 1 + 1) + -1 = _; rw [nI_succ (r.length + 1)]; grind
            refine kx_st 3 (pc' := 12) (L' := [some (.ref 9), some (.int a), some (.int b), some (.int c), some (.int (nI (y :: x :: r).length)), some (.int (nI i)), x6]) (st' := [.int ((kv_uf g 11 f) 9 2), .int (nI i)]) (h' := kv_wd (kv_uf g 11 f) w) rfl ?_
            refine kx_bi (t := 151) rfl rfl (fun (h12 : (kv_uf g 11 f) 9 2 ≤ nI i) => ?_) (fun (h12 : ¬ ((kv_uf g 11 f) 9 2 ≤ nI i)) => ?_)
            · exact absurd h12 (by rw [show (kv_uf g 11 f) 9 2 = nI ln from hl]; exact nI_ge (a := i) (b := ln) (by omega) (by omega))
            · refine kx_st 0 (pc' := 15) (L' := [some (.ref 9), some (.int a), some (.int b), some (.int c), some (.int (nI (y :: x :: r).length)), some (.int (nI i)), x6]) (st' := []) (h' := kv_wd (kv_uf g 11 f) w) rfl ?_
              refine kx_st 3 (pc' := 21) (L' := [some (.ref 9), some (.int a), some (.int b), some (.int c), some (.int (nI (y :: x :: r).length)), some (.int (nI i)), x6]) (st' := [.int (nI i), .ref 10]) (h' := kv_wd (kv_uf g 11 f) w) rfl ?_
              refine kx_ia (k := i) rfl rfl (by decide) rfl (by omega) (by decide) ?_
              refine kx_st 2 (pc' := 26) (L' := [some (.ref 9), some (.int a), some (.int b), some (.int c), some (.int (nI (y :: x :: r).length)), some (.int (nI i)), some (.int ((kv_uf g 11 f) 10 i))]) (st' := [.int ((kv_uf g 11 f) 10 i)]) (h' := kv_wd (kv_uf g 11 f) w) rfl ?_
              refine kx_call (z := 42) (as := [.int ((kv_uf g 11 f) 10 i)]) (rest := []) (v := some (.int (kx_b (-3 ≤ (kv_uf g 11 f) 10 i)))) (h1 := kv_wd (kv_uf g 11 f) w) rfl (ev_isValue (d := d) _) ?_
              refine kx_st 0 (pc' := 29) (L' := [some (.ref 9), some (.int a), some (.int b), some (.int c), some (.int (nI (y :: x :: r).length)), some (.int (nI i)), some (.int ((kv_uf g 11 f) 10 i))]) (st' := [.int (kx_b (-3 ≤ (kv_uf g 11 f) 10 i))]) (h' := kv_wd (kv_uf g 11 f) w) rfl ?_
              refine kx_be (t := 63) rfl rfl (fun (h29 : ¬ (-3 ≤ (kv_uf g 11 f) 10 i)) => ?_) (fun (h29 : (-3 ≤ (kv_uf g 11 f) 10 i)) => ?_)
              · refine kx_st 2 (pc' := 67) (L' := [some (.ref 9), some (.int a), some (.int b), some (.int c), some (.int (nI (y :: x :: r).length)), some (.int (nI i)), some (.int ((kv_uf g 11 f) 10 i))]) (st' := [.int (-33), .int ((kv_uf g 11 f) 10 i)]) (h' := kv_wd (kv_uf g 11 f) w) rfl ?_
                refine kx_bi (t := 105) rfl rfl (fun (h67 : ¬ (kv_uf g 11 f) 10 i = (-33)) => ?_) (fun (h67 : ¬ (¬ (kv_uf g 11 f) 10 i = (-33))) => ?_)
                · refine kx_st 2 (pc' := 108) (L' := [some (.ref 9), some (.int a), some (.int b), some (.int c), some (.int (nI (y :: x :: r).length)), some (.int (nI i)), some (.int ((kv_uf g 11 f) 10 i))]) (st' := [.int 2, .int (nI (y :: x :: r).length)]) (h' := kv_wd (kv_uf g 11 f) w) rfl ?_
                  refine kx_bi (t := 145) rfl rfl (fun (h108 : nI (y :: x :: r).length < 2) => ?_) (fun (h108 : ¬ (nI (y :: x :: r).length < 2)) => ?_)
                  · exact absurd h108 (nI_nlt (a := r.length + 1 + 1) (b := 2) (by omega) (by omega))
                  · refine kx_st 0 (pc' := 111) (L' := [some (.ref 9), some (.int a), some (.int b), some (.int c), some (.int (nI (y :: x :: r).length)), some (.int (nI i)), some (.int ((kv_uf g 11 f) 10 i))]) (st' := []) (h' := kv_wd (kv_uf g 11 f) w) rfl ?_
                    refine kx_st 13 (pc' := 133) (L' := [some (.ref 9), some (.int a), some (.int b), some (.int c), some (.int ((nI (y :: x :: r).length) + (-1))), some (.int (nI i)), some (.int ((kv_uf g 11 f) 10 i))]) (st' := [.int (((nI (y :: x :: r).length) + (-1)) - 1), .ref 11, .int (-((kv_uf g 11 f) 10 i)), .int (((nI (y :: x :: r).length) + (-1)) - 1), .ref 11]) (h' := kv_wd (kv_uf g 11 f) w) rfl ?_
                    refine kx_ia (k := r.length) rfl rfl (by decide) (by rw [p1]; exact nI_pred r.length) (by omega) (by decide) ?_
                    refine kx_st 3 (pc' := 140) (L' := [some (.ref 9), some (.int a), some (.int b), some (.int c), some (.int ((nI (y :: x :: r).length) + (-1))), some (.int (nI i)), some (.int ((kv_uf g 11 f) 10 i))]) (st' := [.int ((nI (y :: x :: r).length) + (-1)), .ref 11, .int ((kv_uf g 11 f) 11 r.length), .int (-((kv_uf g 11 f) 10 i)), .int (((nI (y :: x :: r).length) + (-1)) - 1), .ref 11]) (h' := kv_wd (kv_uf g 11 f) w) rfl ?_
                    refine kx_ia (k := (r.length + 1)) rfl rfl (by decide) p1 (by omega) (by decide) ?_
                    refine kx_call (z := 44) (as := [.int (-((kv_uf g 11 f) 10 i)), .int ((kv_uf g 11 f) 11 r.length), .int ((kv_uf g 11 f) 11 (r.length + 1))]) (rest := [.int (((nI (y :: x :: r).length) + (-1)) - 1), .ref 11]) (v := some (.int (kx_jn (-((kv_uf g 11 f) 10 i)) ((kv_uf g 11 f) 11 r.length) ((kv_uf g 11 f) 11 (r.length + 1))))) (h1 := kv_wd (kv_uf g 11 f) w) rfl (ev_joined (d := d) _ _ _) ?_
                    refine kx_st 0 (pc' := 144) (L' := [some (.ref 9), some (.int a), some (.int b), some (.int c), some (.int ((nI (y :: x :: r).length) + (-1))), some (.int (nI i)), some (.int ((kv_uf g 11 f) 10 i))]) (st' := [.int (kx_jn (-((kv_uf g 11 f) 10 i)) ((kv_uf g 11 f) 11 r.length) ((kv_uf g 11 f) 11 (r.length + 1))), .int (((nI (y :: x :: r).length) + (-1)) - 1), .ref 11]) (h' := kv_wd (kv_uf g 11 f) w) rfl ?_
                    refine kx_is (k := r.length) rfl rfl (by decide) (by rw [p1]; exact nI_pred r.length) (by omega) (by decide) ?_
                    refine kx_st 2 (pc' := 6) (L' := [some (.ref 9), some (.int a), some (.int b), some (.int c), some (.int ((nI (y :: x :: r).length) + (-1))), some (.int ((nI i) + 1)), some (.int ((kv_uf g 11 f) 10 i))]) (st' := []) (h' := kv_wd (kv_up (kv_uf g 11 f) 11 r.length (kx_jn (-((kv_uf g 11 f) 10 i)) ((kv_uf g 11 f) 11 r.length) ((kv_uf g 11 f) 11 (r.length + 1)))) w) rfl ?_
                    rw [kv_up_uf, kv_uf_self, kv_uf_uf, p1, ← nI_succ]
                    refine ih (i + 1) (kx_jn (-sg) x y :: r) _ _ (by omega) hg2 ?_ (by rw [List.length_cons]; omega) (fun f' => ?_)
                    · rw [show -((kv_uf g 11 f) 10 i) = -sg by rw [ei]]
                      show kx_sk (upd f r.length (kx_jn (-sg) (f r.length) (f (r.length + 1)))) (kx_jn (-sg) x y :: r)
                      rw [gx, gy]
                      exact kx_sk_top (kx_sk_tl hsk)
                    · have z := hP f'
                      rw [show kx_ex a b c (sg :: rest) (y :: x :: r) = kx_ex a b c rest (kx_jn (-sg) x y :: r) from by show kx_ex a b c rest (kx_e1 a b c sg (y :: x :: r)) = _; unfold kx_e1; rw [if_neg hv]; dsimp only; rw [if_neg h33]] at z
                      exact z
                · exact absurd (Classical.not_not.mp h67) h33b
              · exact absurd h29 hnv
