/-! INSTRUCTIONS THAT CHANGE THE HEAP: the real machine follows kv_hp -/
theorem kv_hp_mono {o kd : Nat} {ins : Instr} {pc pc' : Nat} {st st' : List Value} {h h' : kv_H} (hh : kv_hp o kd ins pc st h = some (pc', st', h')) : h.length ≤ h'.length ∧ kv_sz h ≤ kv_sz h' ∧ (h.length ≤ 1000 → h'.length ≤ 1000) := by
  have key : ∀ (a : Nat) (c c' : kv_E), h[a]? = some c → kv_cs c' = kv_cs c → h.length ≤ (h.set a c').length ∧ kv_sz h ≤ kv_sz (h.set a c') ∧ (h.length ≤ 1000 → (h.set a c').length ≤ 1000) := by
    intro a c c' h1 h2
    rw [List.length_set, kv_sz_set h1 h2]
    exact ⟨Nat.le_refl _, Nat.le_refl _, id⟩
  have key2 : ∀ (c : kv_E), h.length < 1000 → h.length ≤ (h ++ [c]).length ∧ kv_sz h ≤ kv_sz (h ++ [c]) ∧ (h.length ≤ 1000 → (h ++ [c]).length ≤ 1000) := by
    intro c h1
    rw [kv_sz_push, List.length_append]
    exact ⟨by omega, by omega, fun _ => by simp; omega⟩
  cases ins with
  | iastore =>
    simp only [kv_hp] at hh
    split at hh
    · split at hh
      · rename_i h1
        split at hh
        · cases hh
        · cases hh; exact key _ _ _ h1 rfl
      · cases hh
    · cases hh
  | lastore =>
    simp only [kv_hp] at hh
    split at hh
    · split at hh
      · rename_i h1
        split at hh
        · cases hh
        · cases hh; exact key _ _ _ h1 rfl
      · cases hh
    · cases hh
  | aastore =>
    simp only [kv_hp] at hh
    split at hh
    · split at hh
      · rename_i h1
        split at hh
        · split at hh
          · cases hh
          · split at hh
            · cases hh; exact key _ _ _ h1 rfl
            · cases hh
        · cases hh
      · cases hh
    · cases hh
  | putfield i =>
    simp only [kv_hp] at hh
    split at hh
    · split at hh
      · split at hh
        · rename_i h1
          split at hh
          · cases hh; exact key _ _ _ h1 (by simp [kv_cs])
          · cases hh
        · cases hh
      · cases hh
    · cases hh
  | new i =>
    simp only [kv_hp] at hh
    split at hh
    · split at hh
      · rename_i h1
        cases hh; exact key2 _ h1
      · cases hh
    · cases hh
  | newarray t =>
    cases t <;> simp only [kv_hp] at hh <;> first | cases hh | skip
    all_goals
      split at hh
      · split at hh
        · cases hh
        · rename_i h1
          cases hh; exact key2 _ (by omega)
      · cases hh
  | anewarray i =>
    simp only [kv_hp] at hh
    split at hh
    · split at hh
      · split at hh
        · cases hh
        · rename_i h1
          cases hh; exact key2 _ (by omega)
      · cases hh
    · cases hh
  | invokestatic i =>
    simp only [kv_hp] at hh
    split at hh
    · split at hh
      · split at hh
        · rename_i h1
          split at hh
          · cases hh
          · cases hh; exact key _ _ _ h1 rfl
        · cases hh
      · cases hh
    · cases hh
  | _ => exact absurd (show (none : Option (Nat × List Value × kv_H)) = some _ from hh) (by simp)
theorem kv_mv_dv (ρ : Nat → Nat) (ty : FieldType) : kv_mv ρ (defaultValue ty) = defaultValue ty := by cases ty <;> rfl
theorem kv_dv_at (ρ : Nat → Nat) (ci k : Nat) (hk : k < kv_fn ci) : vp_V ((kv_dv ci).map (kv_mv ρ)) k = defaultValue (kv_ty ci k) := by
  unfold vp_V kv_dv
  rw [List.getD_eq_getElem?_getD, List.getElem?_map, List.getElem?_map, List.getElem?_range hk]
  exact kv_mv_dv ρ _
section KVH
variable {p : Program} {l : Launch} {e : Env} {R : Room} {s : State} {m : MethodId} {args : Array Value} {below : List Frame} {meth : Method} {c : Code} {H : Heap} {locs : List Loc} {cells slots : Nat} {Q : State → Prop}
variable {cc : ByteArray} {E : kv_V} {D : va_G} {ρ : Nat → Nat} {cA : Nat → ClassId} {B o nL : Nat}
theorem kv_set_P {h : kv_H} {H' : Heap} {a : Nat} {c0 c' : kv_E} (hP : va_P D vwCl (kv_w ρ cA h) H) (hD : va_D (fun q => B ≤ q) (kv_w ρ cA h)) (hh : h[a]? = some c0) (he : va_at D vwCl (ρ a, kv_rc ρ cA c') H') (oq : ∀ q : Nat, q ≠ ρ a → H'[q]? = H[q]?) : va_P D vwCl (kv_w ρ cA (h.set a c')) H' := by
  rw [← kv_w_set]
  exact hP.set hD (kv_w_get hh) he oq
theorem kv_push_P {h : kv_H} {H' : Heap} {c' : kv_E} (hP : va_P D vwCl (kv_w ρ cA h) H) (he : va_at D vwCl (ρ h.length, kv_rc ρ cA c') H') (oq : ∀ q : Nat, q < H.size → H'[q]? = H[q]?) : va_P D vwCl (kv_w ρ cA (h ++ [c'])) H' := by
  rw [← kv_w_push]
  refine (hP.kept (fun k x hx => oq x.1 ((hP k x hx).lt))).app (fun k x hx => ?_)
  have hz : k < 1 := (List.getElem?_eq_some_iff.mp hx).1
  rw [show k = 0 by omega] at hx
  cases hx
  exact he
theorem kv_push_S {H' : Heap} (hS : va_S (fun q => B ≤ q) s.heap H locs) (hz : H'.size = H.size + 1) (oq : ∀ q : Nat, q < H.size → H'[q]? = H[q]?) : va_S (fun q => B ≤ q) s.heap H' locs := ⟨Nat.le_trans hS.1 (by omega), fun x h1 h2 => (oq x (Nat.lt_of_lt_of_le h1 hS.1)).trans (hS.2.1 x h1 h2), hS.2.2⟩
set_option maxHeartbeats 4000000 in
set_option maxRecDepth 100000 in
theorem kv_put_W (hx : p.tables.exec = Jvm.exec) (hb : c.code = cc) (hown : s.vm.findClass (kv_cn o) = some m.cls) (hts : ∀ w ∈ kv_tb, w.before args s = true) (heo : kv_eo E D ρ cA B s)
    {h : kv_H} (hD : va_D (fun q => B ≤ q) (kv_w ρ cA h)) (hP : va_P D vwCl (kv_w ρ cA h) H) (hS : va_S (fun q => B ≤ q) s.heap H locs) {kd i a ci k pp : Nat} {v : Value} {fs : List Value} (hin : kd = 2 → meth.name = "<init>")
    (hq : kv_lk kv_fl o i = some (ci, k, pp)) (hh : h[a]? = some (.inr (ci, fs))) (hl : k < fs.length) (hfit : kv_fit (kv_ty ci k) v = true) (hfin : kv_fin ci k = true → kd = 2 ∧ ci = o) {pc : Nat} {ls : Array Slot} {rest : List Value}
    (hdg : decode cc pc = .ok (.putfield i, 3))
    (kk : ∀ (H' : Heap) (locs' : List Loc), va_P D vwCl (kv_w ρ cA (h.set a (.inr (ci, fs.set k v)))) H' → H'.size = H.size → va_S (fun q => B ≤ q) s.heap H' locs' → W p l e R s m args below meth c H' locs' cells slots Q (F0 m (pc + 3) ls rest)) : W p l e R s m args below meth c H locs cells slots Q (F0 m pc ls (kv_mv ρ v :: .ref (ρ a) :: rest)) := by
  obtain ⟨⟨C, T, N⟩, g1, g2, g3, g4⟩ := kv_fl_s hq
  dsimp only at g1 g2 g3 g4
  obtain ⟨c1, c2, c3, c4⟩ := kv_cok_all ci _ g1
  dsimp only at c1 c2 c3 c4
  obtain ⟨hn, hf⟩ := kv_mv_narrow ρ hfit
  have hap := va_apart (own := kv_cn o) hts c2 (kv_ty ci) c3 c4 heo.1 g1
  obtain ⟨r, h1, cell, q1, q2, q3, q4⟩ := hP a _ (kv_w_get hh)
  have hr : r = (C, T, N) := Option.some.inj (h1.symm.trans g1)
  subst hr
  obtain ⟨hSl, hfc, kC, hkC, hkind⟩ := heo.1.1 ci _ g1
  obtain ⟨cf, kf, fi, f, hi, hsl⟩ := hSl k g2
  have hlay := hts _ (c2 _ (u_in_lay g2))
  have hst := (u_facts hfc hkC (u_lays hts c2 g2) hi).1
  have hsame : ∀ x, s.fieldFound? (T k).1 (T k).2.1 (T k).2.2.1 = some x → s.fieldFound? C (T k).2.1 (T k).2.2.1 = some x := fun x h9 => by rw [g3] at h9; exact h9
  have fin : ∀ (H' : Heap), H'[ρ a]? = some (cell.setSlot f.slot (kv_mv ρ v)) → H'.size = H.size → (∀ q, q ≠ ρ a → H'[q]? = H[q]?) → W p l e R s m args below meth c H' (locs ++ [⟨ρ a, f.slot⟩]) cells slots Q (F0 m (pc + 3) ls rest) := by
    intro H' e1 e2 e3
    rw [hsl] at e1 ⊢
    refine kk H' _ (kv_set_P hP hD hh ?_ e3) e2 (hS.put e2 e3 (hD.2 a _ (kv_w_get hh)))
    show va_at D vwCl (ρ a, .inr (ci, (fs.set k v).map (kv_mv ρ))) H'
    rw [List.map_set]
    exact ⟨_, g1, t_OB.to (V := updV (vp_V (fs.map (kv_mv ρ))) k (kv_mv ρ v)) ⟨_, e1, q2, q3, t_set q4 hap g2 _⟩ (fun j _ => vp_updV_set (by simpa using hl) _ j)⟩
  have hfe : kv_fin ci k = (T k).2.2.2 := by rw [kv_fin, g1]
  by_cases hfb : (T k).2.2.2 = true
  · obtain ⟨hk2, hco⟩ := hfin (by rw [hfe]; exact hfb)
    unfold u_lay at hlay
    rw [if_pos hfb] at hlay
    have hcf : m.cls = cf := by
      obtain ⟨_, _, c', _, _, _, -, -, hf', -, -, -, hown2, -⟩ := Cond.laysFinal_spec hlay
      have e1 : c' = cf := by have := hi.symm.trans hf'; simp at this; exact this.1.symm
      rw [g3, c1, hco] at hown2
      rw [← e1]; exact Option.some.inj (hown.symm.trans hown2)
    have h6 := u_fits hfc hkC hkind (Or.inr hlay) hi (c3 k g2) hn hf
    exact W.putFinK hx hb hown (hts _ g4) (hsame _ hi) hst hcf (hin hk2) (by rw [q2]; exact h6) q1 q3 (by rw [hsl]; exact k2_hasslot (q4 k g2)) rfl rfl hdg fin
  · unfold u_lay at hlay
    rw [if_neg hfb] at hlay
    have h6 := u_store hfc hkC hkind hlay hi (c3 k g2) hn hf
    exact W.putK hx hb (f := f) ⟨hown, hts _ g4, ⟨_, _, _, hsame _ hi⟩, hst⟩ (by rw [q2]; exact h6) q1 q3 (by rw [hsl]; exact k2_hasslot (q4 k g2)) rfl rfl hdg fin
set_option maxHeartbeats 4000000 in
theorem kv_copy_W (hx : p.tables.exec = Jvm.exec) (hb : c.code = cc) (hml : c.maxLocals = nL) (hown : s.vm.findClass (kv_cn o) = some m.cls) (hts : ∀ w ∈ kv_tb, w.before args s = true) (heo : kv_eo E D ρ cA B s) (hRf : 1 ≤ R.frames) (hRl : 60 ≤ R.locals)
    {h : kv_H} (hD : va_D (fun q => B ≤ q) (kv_w ρ cA h)) (hP : va_P D vwCl (kv_w ρ cA h) H) (hS : va_S (fun q => B ≤ q) s.heap H locs) {i pp a a0 n0 n1 : Nat} {f g : Nat → Int32}
    (hq : kv_lk kv_ac o i = some pp) (hh0 : h[a0]? = some (.inl (0, n0, .inl f))) (hh1 : h[a]? = some (.inl (0, n1, .inl g))) {sp dp n : Int32} (h1 : ¬ sp < 0) (h2 : ¬ dp < 0) (h3 : ¬ n < 0) (h4 : sp.toNatClampNeg + n.toNatClampNeg ≤ n0) (h5 : dp.toNatClampNeg + n.toNatClampNeg ≤ n1)
    {pc : Nat} {ls : Array Slot} {rest : List Value} (hls : ls.size = nL) (hsum : (rest.map fun v => v.category).sum ≤ 8)
    (hdg : decode cc pc = .ok (.invokestatic i, 3))
    (kk : ∀ (H' : Heap) (locs' : List Loc), va_P D vwCl (kv_w ρ cA (h.set a (.inl (0, n1, .inl (va_cpy f g sp.toNatClampNeg dp.toNatClampNeg n.toNatClampNeg))))) H' → H'.size = H.size → va_S (fun q => B ≤ q) s.heap H' locs' → W p l e R s m args below meth c H' locs' cells slots Q (F0 m (pc + 3) ls rest)) : W p l e R s m args below meth c H locs cells slots Q (F0 m pc ls (.int n :: .int dp :: .ref (ρ a) :: .int sp :: .ref (ρ a0) :: rest)) := by
  have hlink := hts _ (kv_okw_in (List.all_eq_true.mp kv_ac_ok _ (kv_lk_s hq)))
  have nn : ∀ z : Int32, ¬ z < 0 → z.toInt = (z.toNatClampNeg : Int) := by
    intro z hz
    have hz0 : (0 : Int) ≤ z.toInt := by
      have := Int32.not_lt.mp hz
      simpa using Int32.le_iff_toInt_le.mp this
    show z.toInt = ((z.toInt.toNat : Nat) : Int)
    omega
  intro T hT X
  have hc0 : H[ρ a0]? = some (vp_cell (cA 0) (n0, .inl f)) := hP a0 _ (kv_w_get hh0)
  have hc1 : H[ρ a]? = some (vp_cell (cA 0) (n1, .inl g)) := hP a _ (kv_w_get hh1)
  obtain ⟨-, k0, hk0, cm0, hkk0⟩ := (heo.1.2 0 _ rfl).1 n0 (fun j => .int (f j))
  obtain ⟨-, k1, hk1, cm1, hkk1⟩ := (heo.1.2 0 _ rfl).1 n1 (fun j => .int (g j))
  obtain ⟨vm', X', step⟩ := X.arraycopy hx hown hlink (hts _ (kv_w1_in (by simp [kv_w1]))) (hts _ (kv_w1_in (by simp [kv_w1]))) (hts _ (kv_w1_in (by simp [kv_w1]))) (src := ρ a0) (dst := ρ a) (cs := vp_cell (cA 0) (n0, .inl f)) (cd := vp_cell (cA 0) (n1, .inl g)) (srcPos := sp) (destPos := dp) (n := n) (by rw [hT]; exact hc0) (by rw [hT]; exact hc1)
    (fun _ h => by cases h) (fun _ h => by cases h) (fun h => by cases h) (fun h => by cases h) hk0 hk1 hkk0 hkk1 (show (refKind .int != refKind .int || !refKind .int && FieldType.int != FieldType.int) = false by decide) h1 h2 h3
    (by rw [nn sp h1, nn n h3]; show ¬ _ > ((arrV (cA 0) n0 (fun j => .int (f j))).slots.size : Int); rw [arrV_size]; omega)
    (by rw [nn dp h2, nn n h3]; show ¬ _ > ((arrV (cA 0) n1 (fun j => .int (g j))).slots.size : Int); rw [arrV_size]; omega)
    (fun vm₁ _ i hi => by
      have e : (vp_cell (cA 0) (n0, .inl f)).slots.getD (sp.toNatClampNeg + i) .null = .int (f (sp.toNatClampNeg + i)) := by
        show (arrV (cA 0) n0 (fun j => .int (f j))).slots.getD _ _ = _
        rw [Array.getD_eq_getD_getElem?, arrV_read _ _ (by omega)]
        rfl
      refine ⟨?_, ?_⟩
      · rw [e]
        rfl
      · rw [e]
        exact trivial)
    (g := F0 m pc ls (.int n :: .int dp :: .ref (ρ a) :: .int sp :: .ref (ρ a0) :: rest)) rfl (by rw [hml]; exact hls) (rest := rest) rfl (by rw [hb]; exact hdg) hRf (by
      have : nativeFrameWords "java/lang/System" "arraycopy" 5 = 7 := by decide
      show 2 * 0 + _ + _ ≤ _
      rw [this]
      omega)
  have e1 : copied (vp_cell (cA 0) (n0, .inl f)) (vp_cell (cA 0) (n1, .inl g)) sp dp n = vp_cell (cA 0) (n1, .inl (va_cpy f g sp.toNatClampNeg dp.toNatClampNeg n.toNatClampNeg)) := va_copied (fun z => .int z) (cA 0) (cA 0) f g h4
  have hl : ρ a < H.size := (Array.getElem?_eq_some_iff.mp hc1).1
  rw [e1] at X' step
  have hheap : ((T.setVm vm').setCell (ρ a) (vp_cell (cA 0) (n1, .inl (va_cpy f g sp.toNatClampNeg dp.toNatClampNeg n.toNatClampNeg)))).heap = H.setIfInBounds (ρ a) (vp_cell (cA 0) (n1, .inl (va_cpy f g sp.toNatClampNeg dp.toNatClampNeg n.toNatClampNeg))) := by rw [← hT]; rfl
  have oq : ∀ q : Nat, q ≠ ρ a → (H.setIfInBounds (ρ a) (vp_cell (cA 0) (n1, .inl (va_cpy f g sp.toNatClampNeg dp.toNatClampNeg n.toNatClampNeg))))[q]? = H[q]? := fun q hq => by simp [Array.getElem?_setIfInBounds, Ne.symm hq]
  obtain ⟨t, a1, b1⟩ := kk _ _ (kv_set_P hP hD hh1 (show (H.setIfInBounds (ρ a) _)[ρ a]? = some _ by simp [Array.getElem?_setIfInBounds, hl]) oq) (by simp) ⟨by simp; exact hS.1, fun q g1 g2 => by
      rw [oq q (fun e => g2 (by rw [e]; exact hD.2 a _ (kv_w_get hh1)))]
      exact hS.2.1 q g1 g2, fun q hq => by
      rcases List.mem_append.mp hq with h | h
      · exact hS.2.2 q h
      · obtain ⟨z, -, hz⟩ := List.mem_map.mp h
        rw [← hz]
        exact hD.2 a _ (kv_w_get hh1)⟩ _ hheap X'
  exact ⟨t, step t a1, b1⟩
end KVH
