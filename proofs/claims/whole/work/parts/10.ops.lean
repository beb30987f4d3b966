/-! INSTRUCTIONS THAT LEAVE THE HEAP: the real machine follows kv_op -/
def kv_il : Instr → Nat
  | .bipush _ => 2
  | .sipush _ => 3
  | .ldc _ => 2
  | .ldc_w _ => 3
  | .ldc2_w _ => 3
  | .iload _ => 2
  | .lload _ => 2
  | .aload _ => 2
  | .istore _ => 2
  | .lstore _ => 2
  | .astore _ => 2
  | .iinc _ _ => 3
  | .goto _ => 3
  | .ifCond _ _ => 3
  | .if_icmp _ _ => 3
  | .ifnull _ => 3
  | .ifnonnull _ => 3
  | .getfield _ => 3
  | .putfield _ => 3
  | .getstatic _ => 3
  | .invokespecial _ => 3
  | .invokestatic _ => 3
  | .invokevirtual _ => 3
  | .new _ => 3
  | .anewarray _ => 3
  | .newarray _ => 2
  | _ => 1
def kv_lok (q : Instr × Nat) : Bool := match q.1 with
  | .tableswitch _ _ _ _ => true
  | .lookupswitch _ _ => true
  | i => q.2 == kv_il i
set_option maxRecDepth 100000 in
theorem kv_lens : kv_mt.all (fun e => e.2.2.2.2.2.2.2.all (fun q => kv_lok q.2)) = true := by decide +kernel
theorem kv_at_s {y pc : Nat} {q : Instr × Nat} (h : kv_at y pc = some q) : (pc, q) ∈ kv_cd y := by
  unfold kv_at at h
  cases hf : (kv_cd y).find? (fun q => q.1 == pc) with
  | none => rw [hf] at h; cases h
  | some r =>
    rw [hf] at h
    cases h
    have h1 := List.mem_of_find?_eq_some hf
    have h2 := List.find?_some hf
    simp only [beq_iff_eq] at h2
    obtain ⟨a, b⟩ := r
    dsimp only at h2
    rw [← h2]
    exact h1
theorem kv_at_len {y pc : Nat} {q : Instr × Nat} (h : kv_at y pc = some q) : kv_lok q = true := by
  have h1 := kv_at_s h
  unfold kv_cd kv_m at h1
  cases he : kv_mt[y]? with
  | none => rw [he] at h1; exact absurd h1 List.not_mem_nil
  | some e =>
    rw [he] at h1
    have h2 := List.all_eq_true.mp kv_lens e (List.mem_of_getElem? he)
    exact List.all_eq_true.mp h2 _ h1
def kv_et : Nat → FieldType
  | 0 => .int
  | _ => .char
def kv_tys (cA : Nat → ClassId) : List (ClassId × FieldType) := [(cA 0, .int), (cA 1, .long), (cA 2, .object (kv_cn (kv_ec 2))), (cA 3, .object (kv_cn (kv_ec 3)))]
/-- what doesn't change, as a state has it -/
def kv_eo (E : kv_V) (D : va_G) (ρ : Nat → Nat) (cA : Nat → ClassId) (B : Nat) (U : State) : Prop :=
  va_K D vwCl (kv_tys cA) U ∧
  (∀ a t n f, E a = some (t, n, f) → (t = 0 ∨ t = 1) ∧ va_T (kv_et t) (ρ a) n (fun j => .int (f j)) (fun q => B ≤ q) U U.heap) ∧
  (∀ t, 1 ≤ t ∧ t ≤ 3 → va_Z (kv_sn t).1 (kv_sn t).2.1 (kv_sn t).2.2 (.ref (ρ (1000 + t))) (fun q => B ≤ q) U U.heap) ∧
  (∀ q ∈ kv_ml, q.2.2.1 = 3 → ∃ host, va_Nw (.methodLinkNest (kv_cn q.1) q.2.1 (kv_m q.2.2.2.1).1 host) U) ∧
  (∀ t, t = 2 ∨ t = 3 → va_AO (kv_cn (kv_ec t)) U)
theorem kv_eo.warm {E : kv_V} {D : va_G} {ρ : Nat → Nat} {cA : Nat → ClassId} {B : Nat} {s U : State} (h : kv_eo E D ρ cA B s) (hW : s.WarmedH U.vm) (hq : ∀ a : Nat, a < s.heap.size → ¬ B ≤ a → U.heap[a]? = s.heap[a]?) : kv_eo E D ρ cA B U := by
  obtain ⟨h1, h2, h3, h4, h5⟩ := h
  refine ⟨h1.moved hW.alike, fun a t n f he => ⟨(h2 a t n f he).1, ((h2 a t n f he).2.kept hq).moved hW.alike⟩, fun t ht => ((h3 t ht).kept hq).moved hW.alike, fun q hm hk => ?_, fun t ht => (h5 t ht).moved hW.alike⟩
  obtain ⟨host, h6⟩ := h4 q hm hk
  exact ⟨host, h6.warmM hW⟩
theorem kv_eo.same {E : kv_V} {D : va_G} {ρ : Nat → Nat} {cA : Nat → ClassId} {B : Nat} {s U : State} (h : kv_eo E D ρ cA B s) (hvm : s.vm.Alike U.vm) (he : s.vm = U.vm) (hq : U.heap = s.heap) : kv_eo E D ρ cA B U := by
  obtain ⟨h1, h2, h3, h4, h5⟩ := h
  have hq' : ∀ a : Nat, a < s.heap.size → ¬ B ≤ a → U.heap[a]? = s.heap[a]? := fun a _ _ => by rw [hq]
  refine ⟨h1.moved hvm, fun a t n f he => ⟨(h2 a t n f he).1, ((h2 a t n f he).2.kept hq').moved hvm⟩, fun t ht => ((h3 t ht).kept hq').moved hvm, fun q hm hk => ?_, fun t ht => (h5 t ht).moved hvm⟩
  obtain ⟨host, h6⟩ := h4 q hm hk
  exact ⟨host, h6.same rfl he⟩
section KVO
variable {p : Program} {l : Launch} {e : Env} {R : Room} {s : State} {m : MethodId} {args : Array Value} {below : List Frame} {meth : Method} {c : Code} {H : Heap} {locs : List Loc} {cells slots : Nat} {Q : State → Prop}
variable {cc : ByteArray} {E : kv_V} {D : va_G} {ρ : Nat → Nat} {cA : Nat → ClassId} {B o nL : Nat}
theorem kv_K0 (h : kv_eo E D ρ cA B s) : va_K D vwCl (kv_tys cA) s := h.1
theorem kv_rd_W (hx : p.tables.exec = Jvm.exec) (hb : c.code = cc) (heo : kv_eo E D ρ cA B s) {h : kv_H} (hP : va_P D vwCl (kv_w ρ cA h) H) (hS : va_S (fun q => B ≤ q) s.heap H locs) {ty a : Nat} {i : Int32} {v : Value} (hr : kv_rd E h ty a i = some v) {pc : Nat} {ls : Array Slot} {rest : List Value}
    (hdg : (ty = 0 ∧ decode cc pc = .ok (.iaload, 1)) ∨ (ty = 1 ∧ decode cc pc = .ok (.caload, 1)))
    (kk : W p l e R s m args below meth c H locs cells slots Q (F0 m (pc + 1) ls (kv_mv ρ v :: rest))) : W p l e R s m args below meth c H locs cells slots Q (F0 m pc ls (.int i :: .ref (ρ a) :: rest)) := by
  unfold kv_rd at hr
  split at hr
  · rename_i n f hh
    split at hr
    · cases hr
    · rename_i hin
      split at hr
      · rename_i ht
        cases hr
        rcases hdg with ⟨-, hdg⟩ | ⟨h1, -⟩
        · exact va_iald hx hb heo.1 hP a 0 (kv_w_get hh) rfl hin hdg kk
        · omega
      · cases hr
  · cases hr
  · split at hr
    · rename_i t n f he
      split at hr
      · cases hr
      · rename_i hin
        split at hr
        · rename_i ht
          cases hr
          subst ht
          obtain ⟨h0, hT⟩ := heo.2.1 a t n f he
          rcases hdg with ⟨h1, hdg⟩ | ⟨h1, hdg⟩
          · subst h1
            exact va_ti hx hb hT hS hin rfl hdg kk
          · subst h1
            exact va_tc hx hb hT hS hin rfl hdg kk
        · cases hr
    · cases hr
theorem kv_len_W (hx : p.tables.exec = Jvm.exec) (hb : c.code = cc) (heo : kv_eo E D ρ cA B s) {h : kv_H} (hP : va_P D vwCl (kv_w ρ cA h) H) (hS : va_S (fun q => B ≤ q) s.heap H locs) {a : Nat} {v : Value} (hr : kv_len E h a = some v) {pc : Nat} {ls : Array Slot} {rest : List Value}
    (hdg : decode cc pc = .ok (.arraylength, 1))
    (kk : W p l e R s m args below meth c H locs cells slots Q (F0 m (pc + 1) ls (kv_mv ρ v :: rest))) : W p l e R s m args below meth c H locs cells slots Q (F0 m pc ls (.ref (ρ a) :: rest)) := by
  unfold kv_len at hr
  split at hr
  · rename_i t x hh
    split at hr
    · rename_i ht
      cases hr
      obtain ⟨n, f | f | f | f | f⟩ := x <;> rcases (show t = 0 ∨ t = 1 ∨ t = 2 ∨ t = 3 by omega) with rfl | rfl | rfl | rfl
      all_goals first
        | exact va_alen hx hb heo.1 hP a 0 (kv_w_get hh) rfl rfl hdg kk
        | exact va_alen hx hb heo.1 hP a 1 (kv_w_get hh) rfl rfl hdg kk
        | exact va_alen hx hb heo.1 hP a 2 (kv_w_get hh) rfl rfl hdg kk
        | exact va_alen hx hb heo.1 hP a 3 (kv_w_get hh) rfl rfl hdg kk
    · cases hr
  · cases hr
  · split at hr
    · rename_i t n f he
      cases hr
      obtain ⟨-, hT⟩ := heo.2.1 a _ _ _ he
      exact va_tlen hx hb hT hS rfl hdg kk
    · cases hr
theorem kv_rdl_W (hx : p.tables.exec = Jvm.exec) (hb : c.code = cc) (heo : kv_eo E D ρ cA B s) {h : kv_H} (hP : va_P D vwCl (kv_w ρ cA h) H) {a : Nat} {i : Int32} {v : Value} (hr : kv_rdl h a i = some v) {pc : Nat} {ls : Array Slot} {rest : List Value}
    (hdg : decode cc pc = .ok (.laload, 1))
    (kk : W p l e R s m args below meth c H locs cells slots Q (F0 m (pc + 1) ls (kv_mv ρ v :: rest))) : W p l e R s m args below meth c H locs cells slots Q (F0 m pc ls (.int i :: .ref (ρ a) :: rest)) := by
  unfold kv_rdl at hr
  split at hr
  · rename_i n f hh
    split at hr
    · cases hr
    · rename_i hin
      cases hr
      exact va_lald hx hb heo.1 hP a 1 (kv_w_get hh) rfl hin hdg kk
  · cases hr
theorem kv_rda_W (hx : p.tables.exec = Jvm.exec) (hb : c.code = cc) (heo : kv_eo E D ρ cA B s) {h : kv_H} (hP : va_P D vwCl (kv_w ρ cA h) H) {a : Nat} {i : Int32} {v : Value} (hr : kv_rda h a i = some v) {pc : Nat} {ls : Array Slot} {rest : List Value}
    (hdg : decode cc pc = .ok (.aaload, 1))
    (kk : W p l e R s m args below meth c H locs cells slots Q (F0 m (pc + 1) ls (kv_mv ρ v :: rest))) : W p l e R s m args below meth c H locs cells slots Q (F0 m pc ls (.int i :: .ref (ρ a) :: rest)) := by
  unfold kv_rda at hr
  split at hr
  · rename_i t n f hh
    split at hr
    · cases hr
    · rename_i hin
      split at hr
      · rename_i ht
        cases hr
        rw [kv_mv_rf] at kk
        rcases ht with rfl | rfl
        · exact va_aldq hx hb heo.1 hP a 2 (kv_w_get hh) rfl hin hdg kk
        · exact va_aldq hx hb heo.1 hP a 3 (kv_w_get hh) rfl hin hdg kk
      · cases hr
  · cases hr
theorem kv_fl_s {o i : Nat} {q : Nat × Nat × Nat} (h : kv_lk kv_fl o i = some q) : ∃ r : vw_C, vwCl[q.1]? = some r ∧ q.2.1 < r.2.2 ∧ (r.2.1 q.2.1).1 = r.1 ∧ Jvm.Cond.fieldLink (kv_cn o) i r.1 (r.2.1 q.2.1).2.1 (r.2.1 q.2.1).2.2.1 ∈ kv_tb := by
  have h1 := List.all_eq_true.mp kv_fl_ok _ (kv_lk_s h)
  obtain ⟨ci, k, pp⟩ := q
  unfold kv_flw at h1
  dsimp only at h1 ⊢
  cases hr : vwCl[ci]? with
  | none => rw [hr] at h1; cases h1
  | some r =>
    rw [hr] at h1
    simp only [Bool.and_eq_true, decide_eq_true_eq] at h1
    exact ⟨r, rfl, h1.1, h1.2.1, kv_okw_in h1.2.2⟩
theorem kv_fld_W (hx : p.tables.exec = Jvm.exec) (hb : c.code = cc) (hown : s.vm.findClass (kv_cn o) = some m.cls) (hts : ∀ w ∈ kv_tb, w.before args s = true) (heo : kv_eo E D ρ cA B s) {h : kv_H} (hP : va_P D vwCl (kv_w ρ cA h) H) {a i : Nat} {v : Value} (hr : kv_fld h a (kv_lk kv_fl o i) = some v) {pc : Nat} {ls : Array Slot} {rest : List Value}
    (hdg : decode cc pc = .ok (.getfield i, 3))
    (kk : W p l e R s m args below meth c H locs cells slots Q (F0 m (pc + 3) ls (kv_mv ρ v :: rest))) : W p l e R s m args below meth c H locs cells slots Q (F0 m pc ls (.ref (ρ a) :: rest)) := by
  unfold kv_fld at hr
  split at hr
  · rename_i ci k pp hq
    split at hr
    · rename_i cj fs hh
      split at hr
      · rename_i hc
        subst hc
        obtain ⟨⟨C, T, N⟩, g1, g2, g3, g4⟩ := kv_fl_s hq
        dsimp only at g1 g2 g3 g4
        obtain ⟨-, c2, -⟩ := kv_cok_all cj _ g1
        exact va_get (ci := cj) (fs := fs.map (kv_mv ρ)) hx hb hts c2 hown heo.1 hP a (kv_w_get hh) g1 k g2 (hts _ g4) (fun x h9 => by rw [g3] at h9; exact h9) (by rw [List.getElem?_map, hr]; rfl) hdg kk
      · cases hr
    · cases hr
  · cases hr
end KVO
