/-! THE SMALL MACHINE'S WORLD IN THE REAL HEAP: handle k lies at address ρ k -/
def kv_mv (ρ : Nat → Nat) : Value → Value
  | .ref a => .ref (ρ a)
  | v => v
abbrev kv_ms (ρ : Nat → Nat) (st : List Value) : List Value := st.map (kv_mv ρ)
theorem kv_mv_cat (ρ : Nat → Nat) (v : Value) : (kv_mv ρ v).category = v.category := by cases v <;> rfl
theorem kv_ms_cat (ρ : Nat → Nat) (st : List Value) : ((kv_ms ρ st).map fun v => v.category) = st.map fun v => v.category := by
  rw [List.map_map]
  exact List.map_congr_left (fun v _ => kv_mv_cat ρ v)
theorem kv_mv_rf (ρ : Nat → Nat) (r : Option Nat) : kv_mv ρ (va_rf r) = va_rf (r.map ρ) := by cases r <;> rfl
theorem kv_mv_narrow (ρ : Nat → Nat) {ty : FieldType} {v : Value} (h : kv_fit ty v = true) : narrow ty (kv_mv ρ v) = kv_mv ρ v ∧ fits ty (kv_mv ρ v) = true := by
  cases ty <;> cases v <;> first | exact ⟨rfl, rfl⟩ | exact absurd (show false = true from h) Bool.false_ne_true | skip
  rename_i x
  simp only [kv_fit, Bool.or_eq_true, beq_iff_eq] at h
  rcases h with rfl | rfl
  · exact ⟨show narrow .boolean (.int 0) = .int 0 by decide, show fits .boolean (.int 0) = true by decide⟩
  · exact ⟨show narrow .boolean (.int 1) = .int 1 by decide, show fits .boolean (.int 1) = true by decide⟩
def kv_rc (ρ : Nat → Nat) (cA : Nat → ClassId) : kv_E → va_E
  | .inl (t, n, .inl f) => .inl (cA t, n, .inl f)
  | .inl (t, n, .inr (.inl f)) => .inl (cA t, n, .inr (.inl f))
  | .inl (t, n, .inr (.inr (.inl f))) => .inl (cA t, n, .inr (.inr (.inl f)))
  | .inl (t, n, .inr (.inr (.inr (.inl f)))) => .inl (cA t, n, .inr (.inr (.inr (.inl f))))
  | .inl (t, n, .inr (.inr (.inr (.inr f)))) => .inl (cA t, n, .inr (.inr (.inr (.inr (fun j => (f j).map ρ)))))
  | .inr (ci, fs) => .inr (ci, fs.map (kv_mv ρ))
def kv_w (ρ : Nat → Nat) (cA : Nat → ClassId) (h : kv_H) : va_W := h.mapIdx (fun i c => (ρ i, kv_rc ρ cA c))
theorem kv_w_get {ρ : Nat → Nat} {cA : Nat → ClassId} {h : kv_H} {i : Nat} {c : kv_E} (hc : h[i]? = some c) : (kv_w ρ cA h)[i]? = some (ρ i, kv_rc ρ cA c) := by
  rw [kv_w, List.getElem?_mapIdx, hc]
  rfl
theorem kv_w_set (ρ : Nat → Nat) (cA : Nat → ClassId) (h : kv_H) (i : Nat) (c : kv_E) : (kv_w ρ cA h).set i (ρ i, kv_rc ρ cA c) = kv_w ρ cA (h.set i c) := by
  apply List.ext_getElem?
  intro j
  by_cases hj : i = j
  · subst hj
    by_cases hl : i < h.length
    · rw [List.getElem?_set_self (by simpa [kv_w] using hl), kv_w_get (List.getElem?_set_self hl)]
    · rw [List.getElem?_eq_none (by simpa [kv_w] using hl), List.getElem?_eq_none (by simpa [kv_w] using hl)]
  · rw [List.getElem?_set_ne hj, kv_w, kv_w, List.getElem?_mapIdx, List.getElem?_mapIdx, List.getElem?_set_ne hj]
theorem kv_w_push (ρ : Nat → Nat) (cA : Nat → ClassId) (h : kv_H) (c : kv_E) : kv_w ρ cA h ++ [(ρ h.length, kv_rc ρ cA c)] = kv_w ρ cA (h ++ [c]) := by
  rw [kv_w, kv_w, List.mapIdx_append]
  simp
theorem kv_w_inv {ρ : Nat → Nat} {cA : Nat → ClassId} {h : kv_H} {i : Nat} {q : Nat × va_E} (hc : (kv_w ρ cA h)[i]? = some q) : i < h.length ∧ q.1 = ρ i := by
  rw [kv_w, List.getElem?_mapIdx] at hc
  cases hh : h[i]? with
  | none => rw [hh] at hc; cases hc
  | some c => rw [hh] at hc; cases hc; exact ⟨(List.getElem?_eq_some_iff.mp hh).1, rfl⟩
theorem kv_w_D {ρ : Nat → Nat} {cA : Nat → ClassId} {h : kv_H} {B : Nat} (hl : h.length ≤ 1000) (hρ : ∀ k, k < 1000 → ρ k = B + k) : va_D (fun q => B ≤ q) (kv_w ρ cA h) := by
  refine ⟨fun i j x y hi hj hxy => ?_, fun k q hk => ?_⟩
  · obtain ⟨a1, a2⟩ := kv_w_inv hi
    obtain ⟨b1, b2⟩ := kv_w_inv hj
    rw [a2, b2, hρ i (by omega), hρ j (by omega)] at hxy
    omega
  · obtain ⟨a1, a2⟩ := kv_w_inv hk
    show B ≤ q.1
    rw [a2, hρ k (by omega)]
    omega
/-- how many slots a cell has -/
def kv_cs : kv_E → Nat
  | .inl (_, n, _) => n
  | .inr (_, fs) => fs.length
def kv_sz (h : kv_H) : Nat := (h.map kv_cs).sum
theorem kv_sz_push (h : kv_H) (c : kv_E) : kv_sz (h ++ [c]) = kv_sz h + kv_cs c := by simp [kv_sz]
theorem kv_sz_set {h : kv_H} {i : Nat} {c c' : kv_E} (hc : h[i]? = some c) (he : kv_cs c' = kv_cs c) : kv_sz (h.set i c') = kv_sz h := by
  rw [kv_sz, kv_sz, List.map_set, he]
  congr 1
  apply List.ext_getElem?
  intro j
  by_cases hj : i = j
  · subst hj
    have hl := (List.getElem?_eq_some_iff.mp hc).1
    rw [List.getElem?_set_self (by simpa using hl), List.getElem?_map, hc]
    rfl
  · rw [List.getElem?_set_ne hj]
-- locals
def kv_al (ρ : Nat → Nat) (L : kv_L) : List (Nat × Value) := (List.range L.length).filterMap (fun j => (kv_get L j).map (fun v => (j, kv_mv ρ v)))
theorem kv_get_lt {L : kv_L} {i : Nat} {v : Value} (h : kv_get L i = some v) : i < L.length := by
  unfold kv_get at h
  rcases Nat.lt_or_ge i L.length with q | q
  · exact q
  · rw [List.getElem?_eq_none q] at h
    cases h
theorem kv_al_mem {ρ : Nat → Nat} {L : kv_L} {q : Nat × Value} : q ∈ kv_al ρ L ↔ ∃ v, kv_get L q.1 = some v ∧ q.2 = kv_mv ρ v := by
  unfold kv_al
  rw [List.mem_filterMap]
  constructor
  · rintro ⟨j, -, hj⟩
    cases hg : kv_get L j with
    | none => rw [hg] at hj; cases hj
    | some v => rw [hg] at hj; cases hj; exact ⟨v, hg, rfl⟩
  · rintro ⟨v, hv, he⟩
    refine ⟨q.1, List.mem_range.mpr (kv_get_lt hv), ?_⟩
    rw [hv]
    obtain ⟨a, b⟩ := q
    dsimp only at he hv
    rw [he]
    rfl
theorem kv_al_at {ρ : Nat → Nat} {L : kv_L} {ls : Array Slot} {nL i : Nat} {v : Value} (hl : lv_has ls nL (kv_al ρ L)) (h : kv_get L i = some v) : ls[i]? = some (.val (kv_mv ρ v)) := hl.2.2 (i, kv_mv ρ v) (kv_al_mem.mpr ⟨v, h, rfl⟩)
theorem kv_kill_len (L : kv_L) (i : Nat) : (kv_kill L i).length = L.length := by
  unfold kv_kill
  split
  · rfl
  · split
    · exact List.length_set
    · rfl
theorem kv_st1_len (L : kv_L) (i : Nat) (v : Value) : (kv_st1 L i v).length = L.length := by rw [kv_st1, List.length_set, kv_kill_len]
theorem kv_st2_len (L : kv_L) (i : Nat) (v : Value) : (kv_st2 L i v).length = L.length := by rw [kv_st2, List.length_set, List.length_set, kv_kill_len]
theorem kv_kill_get {L : kv_L} {i j : Nat} {w : Value} (h : kv_get (kv_kill L i) j = some w) : kv_get L j = some w ∧ ¬ (j + 1 = i ∧ w.category = 2 ∧ ∃ x, w = .long x) := by
  unfold kv_kill at h
  split at h
  · exact ⟨h, fun q => by omega⟩
  · rename_i k
    split at h
    · rename_i x hx
      by_cases hj : k = j
      · subst hj
        unfold kv_get at h
        rw [List.getElem?_set_self (List.getElem?_eq_some_iff.mp hx).1] at h
        cases h
      · unfold kv_get at h ⊢
        rw [List.getElem?_set_ne hj] at h
        exact ⟨h, fun q => hj (by omega)⟩
    · rename_i hx
      refine ⟨h, ?_⟩
      rintro ⟨q, -, x, rfl⟩
      have hjk : j = k := by omega
      subst hjk
      unfold kv_get at h
      cases hL : L[j]? with
      | none => rw [hL] at h; cases h
      | some o =>
        rw [hL] at h
        cases o with
        | none => cases h
        | some z => cases h; exact hx x hL
/-- values of this machine of two slots are longs -/
def kv_nd (L : kv_L) : Prop := ∀ i v, kv_get L i = some v → v.category = 2 → ∃ x, v = .long x
theorem kv_nd_kill {L : kv_L} {i : Nat} (h : kv_nd L) : kv_nd (kv_kill L i) := fun j v hj hc => h j v (kv_kill_get hj).1 hc
theorem kv_set_get {L : kv_L} {i j : Nat} {o : Option Value} {w : Value} (h : kv_get (L.set i o) j = some w) : (j = i ∧ o = some w) ∨ (j ≠ i ∧ kv_get L j = some w) := by
  unfold kv_get at h ⊢
  by_cases hj : i = j
  · subst hj
    by_cases hl : i < L.length
    · rw [List.getElem?_set_self hl] at h
      exact Or.inl ⟨rfl, h⟩
    · rw [List.getElem?_eq_none (by simpa using hl)] at h
      cases h
  · rw [List.getElem?_set_ne hj] at h
    exact Or.inr ⟨fun q => hj q.symm, h⟩
theorem kv_nd_st1 {L : kv_L} {i : Nat} {v : Value} (h : kv_nd L) (hv : v.category = 1) : kv_nd (kv_st1 L i v) := by
  intro j w hj hc
  rcases kv_set_get hj with ⟨-, h1⟩ | ⟨-, h1⟩
  · cases h1; omega
  · exact kv_nd_kill h j w h1 hc
theorem kv_nd_st2 {L : kv_L} {i : Nat} {x : Int64} (h : kv_nd L) : kv_nd (kv_st2 L i (.long x)) := by
  intro j w hj hc
  rcases kv_set_get hj with ⟨-, h1⟩ | ⟨-, h1⟩
  · cases h1
  · rcases kv_set_get h1 with ⟨-, h2⟩ | ⟨-, h2⟩
    · cases h2; exact ⟨x, rfl⟩
    · exact kv_nd_kill h j w h2 hc
theorem kv_has_st1 {ρ : Nat → Nat} {L : kv_L} {ls : Array Slot} {nL i : Nat} {v : Value} (hn : kv_nd L) (h : lv_has ls nL ((i, kv_mv ρ v) :: (kv_al ρ L).filter (fun q => !(q.1 == i) && !(q.1 + 1 == i && q.2.category == 2)))) : lv_has ls nL (kv_al ρ (kv_st1 L i v)) := by
  refine ⟨h.1, h.2.1, fun q hq => h.2.2 q ?_⟩
  obtain ⟨w, hw, he⟩ := kv_al_mem.mp hq
  rcases kv_set_get hw with ⟨h1, h2⟩ | ⟨h1, h2⟩
  · cases h2
    obtain ⟨a, b⟩ := q
    dsimp only at h1 he
    rw [h1, he]
    exact List.mem_cons_self
  · refine List.mem_cons_of_mem _ (List.mem_filter.mpr ⟨kv_al_mem.mpr ⟨w, (kv_kill_get h2).1, he⟩, ?_⟩)
    have h3 := (kv_kill_get h2).2
    simp only [Bool.and_eq_true, Bool.not_eq_true', beq_eq_false_iff_ne, ne_eq, Bool.and_eq_false_imp, beq_iff_eq]
    refine ⟨h1, fun h4 h5 => h3 ⟨h4, ?_, ?_⟩⟩
    · rw [he, kv_mv_cat] at h5; exact h5
    · rw [he, kv_mv_cat] at h5; exact hn _ w (kv_kill_get h2).1 h5
theorem kv_has_st2 {ρ : Nat → Nat} {L : kv_L} {ls : Array Slot} {nL i : Nat} {v : Value} (hn : kv_nd L) (h : lv_has ls nL ((i, kv_mv ρ v) :: (kv_al ρ L).filter (fun q => !(q.1 == i) && (!(q.1 == i + 1) && !(q.1 + 1 == i && q.2.category == 2))))) : lv_has ls nL (kv_al ρ (kv_st2 L i v)) := by
  refine ⟨h.1, h.2.1, fun q hq => h.2.2 q ?_⟩
  obtain ⟨w, hw, he⟩ := kv_al_mem.mp hq
  rcases kv_set_get hw with ⟨h1, h2⟩ | ⟨h0, hw⟩
  · cases h2
  rcases kv_set_get hw with ⟨h1, h2⟩ | ⟨h1, h2⟩
  · cases h2
    obtain ⟨a, b⟩ := q
    dsimp only at h1 he
    rw [h1, he]
    exact List.mem_cons_self
  · refine List.mem_cons_of_mem _ (List.mem_filter.mpr ⟨kv_al_mem.mpr ⟨w, (kv_kill_get h2).1, he⟩, ?_⟩)
    have h3 := (kv_kill_get h2).2
    simp only [Bool.and_eq_true, Bool.not_eq_true', beq_eq_false_iff_ne, ne_eq, Bool.and_eq_false_imp, beq_iff_eq]
    refine ⟨h1, h0, fun h4 h5 => h3 ⟨h4, ?_, ?_⟩⟩
    · rw [he, kv_mv_cat] at h5; exact h5
    · rw [he, kv_mv_cat] at h5; exact hn _ w (kv_kill_get h2).1 h5
theorem kv_psh_s {pc n pc' : Nat} {L L' : kv_L} {st st' : List Value} {v : Option Value} (h : kv_psh pc n L st v = some (pc', L', st')) : ∃ w, v = some w ∧ pc' = pc + n ∧ L' = L ∧ st' = w :: st := by
  cases v with
  | none => cases h
  | some w => cases h; exact ⟨w, rfl, rfl, rfl, rfl⟩
theorem kv_sw_s {pc pc' : Nat} {L L' : kv_L} {st st' : List Value} {t : Option Nat} (h : kv_sw pc L st t = some (pc', L', st')) : t = some pc' ∧ L' = L ∧ st' = st := by
  cases t with
  | none => cases h
  | some w => cases h; exact ⟨rfl, rfl, rfl⟩
theorem kv_j_s {pc t : Nat} {off : Int} (h : kv_j pc off = some t) : (pc : Int) + off = (t : Int) := by
  unfold kv_j at h
  split at h
  · cases h; omega
  · cases h
theorem kv_ld_s {L : kv_L} {i : Nat} {k : Value → Bool} {v : Value} (h : kv_ld L i k = some v) : kv_get L i = some v ∧ k v = true := by
  unfold kv_ld at h
  cases hg : kv_get L i with
  | none => rw [hg] at h; cases h
  | some w =>
    rw [hg] at h
    dsimp only at h
    split at h
    · cases h; exact ⟨rfl, by assumption⟩
    · cases h
theorem kv_isI_s {v : Value} (h : kv_isI v = true) : ∃ x, v = .int x := by cases v <;> first | exact ⟨_, rfl⟩ | cases h
theorem kv_isL_s {v : Value} (h : kv_isL v = true) : ∃ x, v = .long x := by cases v <;> first | exact ⟨_, rfl⟩ | cases h
theorem kv_isA_s {v : Value} (h : kv_isA v = true) : v = .null ∨ ∃ x, v = .ref x := by cases v <;> first | exact Or.inl rfl | exact Or.inr ⟨_, rfl⟩ | cases h
theorem kv_lk_s {α : Type} {l : List (Nat × Nat × α)} {o i : Nat} {x : α} (h : kv_lk l o i = some x) : (o, i, x) ∈ l := by
  unfold kv_lk at h
  cases hf : l.find? (fun q => q.1 == o && q.2.1 == i) with
  | none => rw [hf] at h; cases h
  | some q =>
    rw [hf] at h
    cases h
    have h1 := List.mem_of_find?_eq_some hf
    have h2 := List.find?_some hf
    simp only [Bool.and_eq_true, beq_iff_eq] at h2
    obtain ⟨a, b, c⟩ := q
    dsimp only at h2
    rw [← h2.1, ← h2.2]
    exact h1
