/-! INSTRUCTIONS THAT CHANGE THE HEAP, all of them -/
theorem kv_nw_s {o i : Nat} {q : Nat × Nat} (h : kv_lk kv_nw o i = some q) : ∃ r : vw_C, vwCl[q.1]? = some r ∧ Jvm.Cond.classLink (kv_cn o) i r.1 ∈ kv_tb ∧ Jvm.Cond.instantiable r.1 r.2.2 ∈ kv_tb ∧ Jvm.Cond.initialized r.1 ∈ kv_tb := by
  have h1 := List.all_eq_true.mp kv_nw_ok _ (kv_lk_s h)
  obtain ⟨ci, pp⟩ := q
  unfold kv_nww at h1
  dsimp only at h1 ⊢
  cases hr : vwCl[ci]? with
  | none => rw [hr] at h1; cases h1
  | some r =>
    rw [hr] at h1
    simp only [Bool.and_eq_true, decide_eq_true_eq] at h1
    exact ⟨r, rfl, kv_okw_in h1.1, kv_tbm (List.mem_append_right _ h1.2.1) h1.2.2.2.1, kv_tbm (List.mem_append_right _ h1.2.2.1) h1.2.2.2.2⟩
theorem kv_an_s {o i : Nat} {q : Nat × Nat} (h : kv_lk kv_an o i = some q) : Jvm.Cond.classLink (kv_cn o) i (kv_cn (kv_ec q.1)) ∈ kv_tb ∧ (q.1 = 2 ∨ q.1 = 3) := by
  have h1 := List.all_eq_true.mp kv_an_ok _ (kv_lk_s h)
  obtain ⟨t, pp⟩ := q
  unfold kv_anw at h1
  dsimp only at h1 ⊢
  cases hr : vwCl[kv_ec t]? with
  | none => rw [hr] at h1; cases h1
  | some r =>
    rw [hr] at h1
    simp only [Bool.and_eq_true, decide_eq_true_eq] at h1
    have h2 := kv_okw_in h1.1
    rw [(kv_cok_all _ r hr).1] at h2
    exact ⟨h2, h1.2⟩
section KVI
variable {p : Program} {l : Launch} {e : Env} {R : Room} {s : State} {m : MethodId} {args : Array Value} {below : List Frame} {meth : Method} {c : Code} {H : Heap} {locs : List Loc} {cells slots : Nat} {Q : State → Prop}
variable {cc : ByteArray} {E : kv_V} {D : va_G} {ρ : Nat → Nat} {cA : Nat → ClassId} {B o nL : Nat}
set_option maxHeartbeats 1000000 in
theorem kv_newI_W (hx : p.tables.exec = Jvm.exec) (hb : c.code = cc) (hts : ∀ w ∈ kv_tb, w.before args s = true) (heo : kv_eo E D ρ cA B s) (hρ : ∀ k, k < 1000 → ρ k = B + k)
    {h : kv_H} (hP : va_P D vwCl (kv_w ρ cA h) H) (hsz : H.size = B + h.length) (hS : va_S (fun q => B ≤ q) s.heap H locs) {pc : Nat} {rest : List Value} {ls : Array Slot} {n : Int32}
    (hdg : decode cc pc = .ok (.newarray .int, 2)) (hn : ¬ n < 0) (hN : n.toNatClampNeg ≤ 100000) (h1000 : h.length < 1000) (hc : cells + (h ++ [(Sum.inl (0, n.toNatClampNeg, .inl (fun _ => 0)) : kv_E)]).length ≤ R.cells + h.length) (hs : slots + kv_sz (h ++ [(Sum.inl (0, n.toNatClampNeg, .inl (fun _ => 0)) : kv_E)]) ≤ R.slots + kv_sz h)
    (kk : ∀ (H' : Heap) (locs' : List Loc) (cells' slots' : Nat), va_P D vwCl (kv_w ρ cA (h ++ [(Sum.inl (0, n.toNatClampNeg, .inl (fun _ => 0)) : kv_E)])) H' → H'.size = B + (h ++ [(Sum.inl (0, n.toNatClampNeg, .inl (fun _ => 0)) : kv_E)]).length → va_S (fun q => B ≤ q) s.heap H' locs' → cells' + h.length = cells + (h ++ [(Sum.inl (0, n.toNatClampNeg, .inl (fun _ => 0)) : kv_E)]).length → slots' + kv_sz h = slots + kv_sz (h ++ [(Sum.inl (0, n.toNatClampNeg, .inl (fun _ => 0)) : kv_E)]) → W p l e R s m args below meth c H' locs' cells' slots' Q (F0 m (pc + 2) ls (kv_ms ρ (.ref h.length :: rest)))) :
    W p l e R s m args below meth c H locs cells slots Q (F0 m pc ls (kv_ms ρ (.int n :: rest))) := by
  have hlen : (h ++ [(Sum.inl (0, n.toNatClampNeg, .inl (fun _ => 0)) : kv_E)]).length = h.length + 1 := by simp
  have hsz2 : kv_sz (h ++ [(Sum.inl (0, n.toNatClampNeg, .inl (fun _ => 0)) : kv_E)]) = kv_sz h + n.toNatClampNeg := by rw [kv_sz_push]; rfl
  rw [hlen] at hc
  rw [hsz2] at hs
  have hρl : ρ h.length = B + h.length := hρ _ h1000
  have hcb : componentBytes (newarray.typeOf .int) = 4 := rfl
  have hby : n.toNatClampNeg * componentBytes (newarray.typeOf .int) ≤ 536870912 := by rw [hcb]; omega
  have hw : (Cond.arrayClass (newarray.typeOf .int)).before args s = true := hts (.arrayClass .int) (kv_w1_in (by simp [kv_w1]))
  refine va_newaK hx hb hw rfl hdg rfl hn rfl hby (by omega) (by omega) hsz fun H1 cB e1 z1 o1 hAr hNm => ?_
  have hcB : cB = cA 0 := Option.some.inj (hNm.symm.trans (heo.1.2 0 _ rfl).2)
  subst hcB
  have := kk H1 locs (cells + 1) (slots + n.toNatClampNeg) (kv_push_P hP (by
    show H1[ρ h.length]? = some (vp_cell _ _)
    rw [hρl]
    exact e1) (by rw [hsz]; exact o1)) (by rw [z1, hlen]; omega) (kv_push_S hS (by rw [z1, hsz]) (by rw [hsz]; exact o1)) (by rw [hlen]; omega) (by rw [hsz2]; omega)
  rw [← hρl]
  exact this
set_option maxHeartbeats 1000000 in
theorem kv_newJ_W (hx : p.tables.exec = Jvm.exec) (hb : c.code = cc) (hts : ∀ w ∈ kv_tb, w.before args s = true) (heo : kv_eo E D ρ cA B s) (hρ : ∀ k, k < 1000 → ρ k = B + k)
    {h : kv_H} (hP : va_P D vwCl (kv_w ρ cA h) H) (hsz : H.size = B + h.length) (hS : va_S (fun q => B ≤ q) s.heap H locs) {pc : Nat} {rest : List Value} {ls : Array Slot} {n : Int32}
    (hdg : decode cc pc = .ok (.newarray .long, 2)) (hn : ¬ n < 0) (hN : n.toNatClampNeg ≤ 100000) (h1000 : h.length < 1000) (hc : cells + (h ++ [(Sum.inl (1, n.toNatClampNeg, .inr (.inl (fun _ => 0))) : kv_E)]).length ≤ R.cells + h.length) (hs : slots + kv_sz (h ++ [(Sum.inl (1, n.toNatClampNeg, .inr (.inl (fun _ => 0))) : kv_E)]) ≤ R.slots + kv_sz h)
    (kk : ∀ (H' : Heap) (locs' : List Loc) (cells' slots' : Nat), va_P D vwCl (kv_w ρ cA (h ++ [(Sum.inl (1, n.toNatClampNeg, .inr (.inl (fun _ => 0))) : kv_E)])) H' → H'.size = B + (h ++ [(Sum.inl (1, n.toNatClampNeg, .inr (.inl (fun _ => 0))) : kv_E)]).length → va_S (fun q => B ≤ q) s.heap H' locs' → cells' + h.length = cells + (h ++ [(Sum.inl (1, n.toNatClampNeg, .inr (.inl (fun _ => 0))) : kv_E)]).length → slots' + kv_sz h = slots + kv_sz (h ++ [(Sum.inl (1, n.toNatClampNeg, .inr (.inl (fun _ => 0))) : kv_E)]) → W p l e R s m args below meth c H' locs' cells' slots' Q (F0 m (pc + 2) ls (kv_ms ρ (.ref h.length :: rest)))) :
    W p l e R s m args below meth c H locs cells slots Q (F0 m pc ls (kv_ms ρ (.int n :: rest))) := by
  have hlen : (h ++ [(Sum.inl (1, n.toNatClampNeg, .inr (.inl (fun _ => 0))) : kv_E)]).length = h.length + 1 := by simp
  have hsz2 : kv_sz (h ++ [(Sum.inl (1, n.toNatClampNeg, .inr (.inl (fun _ => 0))) : kv_E)]) = kv_sz h + n.toNatClampNeg := by rw [kv_sz_push]; rfl
  rw [hlen] at hc
  rw [hsz2] at hs
  have hρl : ρ h.length = B + h.length := hρ _ h1000
  have hcb : componentBytes (newarray.typeOf .long) = 8 := rfl
  have hby : n.toNatClampNeg * componentBytes (newarray.typeOf .long) ≤ 536870912 := by rw [hcb]; omega
  have hw : (Cond.arrayClass (newarray.typeOf .long)).before args s = true := hts (.arrayClass .long) (kv_w1_in (by simp [kv_w1]))
  refine va_newaK hx hb hw rfl hdg rfl hn rfl hby (by omega) (by omega) hsz fun H1 cB e1 z1 o1 hAr hNm => ?_
  have hcB : cB = cA 1 := Option.some.inj (hNm.symm.trans (heo.1.2 1 _ rfl).2)
  subst hcB
  have := kk H1 locs (cells + 1) (slots + n.toNatClampNeg) (kv_push_P hP (by
    show H1[ρ h.length]? = some (vp_cell _ _)
    rw [hρl]
    exact e1) (by rw [hsz]; exact o1)) (by rw [z1, hlen]; omega) (kv_push_S hS (by rw [z1, hsz]) (by rw [hsz]; exact o1)) (by rw [hlen]; omega) (by rw [hsz2]; omega)
  rw [← hρl]
  exact this
set_option maxHeartbeats 8000000 in
set_option maxRecDepth 100000 in
theorem kv_hp_W (hx : p.tables.exec = Jvm.exec) (hb : c.code = cc) (hml : c.maxLocals = nL) (hown : s.vm.findClass (kv_cn o) = some m.cls) (hts : ∀ w ∈ kv_tb, w.before args s = true) (heo : kv_eo E D ρ cA B s) (hRf : 1 ≤ R.frames) (hRl : 60 ≤ R.locals) (hρ : ∀ k, k < 1000 → ρ k = B + k)
    {h h' : kv_H} (hlen1 : h.length ≤ 1000) (hP : va_P D vwCl (kv_w ρ cA h) H) (hsz : H.size = B + h.length) (hS : va_S (fun q => B ≤ q) s.heap H locs) {kd : Nat} (hin : kd = 2 → meth.name = "<init>") {ins : Instr} {len pc pc' : Nat} {st st' : List Value} {ls : Array Slot} (hls : ls.size = nL)
    (hhp : kv_hp o kd ins pc st h = some (pc', st', h')) (hdg : decode cc pc = .ok (ins, len)) (hlen : kv_lok (ins, len) = true) (hc : cells + h'.length ≤ R.cells + h.length) (hs : slots + kv_sz h' ≤ R.slots + kv_sz h)
    (kk : ∀ (H' : Heap) (locs' : List Loc) (cells' slots' : Nat), va_P D vwCl (kv_w ρ cA h') H' → H'.size = B + h'.length → va_S (fun q => B ≤ q) s.heap H' locs' → cells' + h.length = cells + h'.length → slots' + kv_sz h = slots + kv_sz h' → W p l e R s m args below meth c H' locs' cells' slots' Q (F0 m pc' ls (kv_ms ρ st'))) :
    W p l e R s m args below meth c H locs cells slots Q (F0 m pc ls (kv_ms ρ st)) := by
  have hD : va_D (fun q => B ≤ q) (kv_w ρ cA h) := kv_w_D hlen1 hρ
  have kset : ∀ (a : Nat) (c0 c' : kv_E), h[a]? = some c0 → h' = h.set a c' → kv_cs c' = kv_cs c0 → ∀ (H' : Heap) (locs' : List Loc), va_P D vwCl (kv_w ρ cA h') H' → H'.size = H.size → va_S (fun q => B ≤ q) s.heap H' locs' → W p l e R s m args below meth c H' locs' cells slots Q (F0 m pc' ls (kv_ms ρ st')) := by
    intro a c0 c' g1 g3 g2 H' locs' k1 k2 k3
    have e1 : h'.length = h.length := by rw [g3, List.length_set]
    have e2 : kv_sz h' = kv_sz h := by rw [g3, kv_sz_set g1 g2]
    exact kk H' locs' cells slots k1 (by rw [k2, hsz, e1]) k3 (by rw [e1]) (by rw [e2])
  cases ins with
  | iastore =>
    obtain rfl : len = 1 := by simpa [kv_lok, kv_il] using hlen
    simp only [kv_hp] at hhp
    split at hhp
    · split at hhp
      · rename_i x i a r _ n f hh
        split at hhp
        · cases hhp
        · rename_i hi
          cases hhp
          refine W.iast hx hb (hP a _ (kv_w_get hh)) ((heo.1.2 0 _ rfl).1 n (fun j => .int (f j))) (fun q => by cases q) (by show ¬ (i < 0 ∨ (arrV _ _ _).slots.size ≤ _); rw [arrV_size]; exact hi) rfl rfl hdg fun H1 e1 z oq => ?_
          refine kset a _ (.inl (0, n, .inl (upd f i.toNatClampNeg x))) hh rfl rfl H1 _ (kv_set_P hP hD hh ?_ oq) z (hS.put z oq (hD.2 a _ (kv_w_get hh)))
          show H1[ρ a]? = some (vp_cell (cA 0) (n, .inl (upd f i.toNatClampNeg x)))
          rw [e1, vp_cell_i]
          show some ((arrV (cA 0) n _).setSlot _ _) = some (arrV (cA 0) n (fun j => .int (upd f i.toNatClampNeg x j)))
          rw [arrV_store]
          congr 2
          funext q
          by_cases hq : q = i.toNatClampNeg
          · subst hq
            simp [updV, upd]
          · simp [updV, upd, hq]
      · cases hhp
    · cases hhp
  | lastore =>
    obtain rfl : len = 1 := by simpa [kv_lok, kv_il] using hlen
    simp only [kv_hp] at hhp
    split at hhp
    · split at hhp
      · rename_i x i a r _ n f hh
        split at hhp
        · cases hhp
        · rename_i hi
          cases hhp
          refine W.last hx hb (hP a _ (kv_w_get hh)) ((heo.1.2 1 _ rfl).1 n (fun j => .long (f j))) (fun q => by cases q) (by show ¬ (i < 0 ∨ (arrV _ _ _).slots.size ≤ _); rw [arrV_size]; exact hi) rfl rfl hdg fun H1 e1 z oq => ?_
          refine kset a _ (.inl (1, n, .inr (.inl (vp_updL f i.toNatClampNeg x)))) hh rfl rfl H1 _ (kv_set_P hP hD hh ?_ oq) z (hS.put z oq (hD.2 a _ (kv_w_get hh)))
          show H1[ρ a]? = some (vp_cell (cA 1) (n, .inr (.inl (vp_updL f i.toNatClampNeg x))))
          rw [e1, vp_cell_l]
          show some ((arrV (cA 1) n _).setSlot _ _) = some (arrV (cA 1) n (fun j => .long (vp_updL f i.toNatClampNeg x j)))
          rw [arrV_store]
          congr 2
          funext q
          by_cases hq : q = i.toNatClampNeg
          · subst hq
            simp [updV, vp_updL]
          · simp [updV, vp_updL, hq]
      · cases hhp
    · cases hhp
  | aastore =>
    obtain rfl : len = 1 := by simpa [kv_lok, kv_il] using hlen
    simp only [kv_hp] at hhp
    split at hhp
    · split at hhp
      · rename_i v i a r _ t n f hh
        split at hhp
        · rename_i ci vs hv
          split at hhp
          · cases hhp
          · rename_i hi
            split at hhp
            · rename_i ht
              cases hhp
              obtain ⟨ht, rfl⟩ := ht
              have hlt : i.toNatClampNeg < n := Nat.not_le.mp fun q => hi (Or.inr q)
              have h0 : ¬ i < 0 := fun q => hi (Or.inl q)
              obtain ⟨r', hr', cellV, g1, g2, g3, -⟩ := hP v _ (kv_w_get hv)
              have hcls := (heo.1.1 (kv_ec t) r' hr').2
              have hnm := (kv_cok_all _ r' hr').1
              obtain ⟨kA, comp, k1, k2, k3⟩ : ∃ (kA : Class) (comp : ClassId), s.vm.classes[cA t]? = some kA ∧ kA.kind = .array comp (.object (kv_cn (kv_ec t))) ∧ s.vm.findClass (kv_cn (kv_ec t)) = some comp := by
                rcases ht with rfl | rfl
                · obtain ⟨kA, comp, k1, k2, k3, -⟩ := (heo.1.2 2 _ rfl).2
                  exact ⟨kA, comp, k1, k2, k3⟩
                · obtain ⟨kA, comp, k1, k2, k3, -⟩ := (heo.1.2 3 _ rfl).2
                  exact ⟨kA, comp, k1, k2, k3⟩
              rw [hnm] at hcls
              have hcomp : comp = D.1 (kv_ec t) := Option.some.inj (k3.symm.trans hcls.1)
              subst hcomp
              obtain ⟨kC, hkC, -⟩ := hcls.2
              refine W.aast hx hb (hP a _ (kv_w_get hh)) (fun q h => by cases h) (fun h => by cases h) k1 k2 rfl hkC ⟨h0, by show _ < (arrV _ _ _).slots.size; rw [arrV_size]; exact hlt⟩ g1 (fun q h => by rw [g3] at h; cases h) (by rw [g2]; exact hkC) (by rw [g2]; exact va_assign hcls) rfl rfl hdg fun H1 e1 z oq => ?_
              refine kset a _ (.inl (t, n, .inr (.inr (.inr (.inr (va_up f i.toNatClampNeg (some v))))))) hh rfl rfl H1 _ (kv_set_P hP hD hh ?_ oq) z (hS.put z oq (hD.2 a _ (kv_w_get hh)))
              show H1[ρ a]? = some (vp_cell (cA t) (n, .inr (.inr (.inr (.inr (fun j => (va_up f i.toNatClampNeg (some v) j).map ρ))))))
              rw [e1, vp_cell_q]
              show some ((arrV (cA t) n _).setSlot _ _) = some (arrV (cA t) n (fun j => va_rf ((va_up f i.toNatClampNeg (some v) j).map ρ)))
              rw [arrV_store]
              congr 2
              funext q
              by_cases hq : q = i.toNatClampNeg
              · subst hq
                simp [updV, va_up, va_rf]
              · simp [updV, va_up, hq]
            · cases hhp
        · cases hhp
      · cases hhp
    · cases hhp
  | putfield i =>
    obtain rfl : len = 3 := by simpa [kv_lok, kv_il] using hlen
    simp only [kv_hp] at hhp
    split at hhp
    · split at hhp
      · split at hhp
        · rename_i v a r _ ci k pp hq _ cj fs hh
          split at hhp
          · rename_i hcond
            cases hhp
            obtain ⟨rfl, q2, q3, q4⟩ := hcond
            exact kv_put_W hx hb hown hts heo hD hP hS hin hq hh q2 q3 q4 hdg (kset a _ _ hh rfl (by simp [kv_cs]))
          · cases hhp
        · cases hhp
      · cases hhp
    · cases hhp
  | new i =>
    obtain rfl : len = 3 := by simpa [kv_lok, kv_il] using hlen
    simp only [kv_hp] at hhp
    split at hhp
    · rename_i ci pp hq
      split at hhp
      · rename_i h1000
        cases hhp
        obtain ⟨⟨C, T, N⟩, g1, g2, g3, g4⟩ := kv_nw_s hq
        dsimp only at g1 g2 g3 g4
        obtain ⟨c1, c2, c3, c4⟩ := kv_cok_all ci _ g1
        dsimp only at c1 c2 c3 c4
        have hfn : kv_fn ci = N := by rw [kv_fn, g1]
        have hdl : (kv_dv ci).length = N := by rw [kv_dv, List.length_map, List.length_range, hfn]
        have hKn := heo.1.1 ci _ g1
        rw [List.length_append] at hc
        rw [kv_sz_push] at hs
        have hcs : kv_cs (.inr (ci, kv_dv ci)) = N := hdl
        rw [hcs] at hs
        refine W.newcK hx hb hown (hts _ g2) (hts _ g3) (hts _ g4) rfl hdg (by simp at hc; omega) (by omega) hKn.2.1 hsz fun H1 kC hkC e1 z1 o1 => ?_
        have hρl : ρ h.length = B + h.length := hρ _ h1000
        have := kk H1 locs (cells + 1) (slots + N) (kv_push_P hP (by
          show va_at D vwCl (ρ h.length, .inr (ci, (kv_dv ci).map (kv_mv ρ))) H1
          rw [hρl]
          exact ⟨_, g1, (u_born (kv_ty ci) hts c2 hKn hkC e1 c3).to (fun k hk => (kv_dv_at ρ ci k (by rw [hfn]; exact hk)).symm)⟩) (by rw [hsz]; exact o1)) (by rw [z1, List.length_append]; simp; omega) (kv_push_S hS (by rw [z1, hsz]) (by rw [hsz]; exact o1)) (by rw [List.length_append]; simp; omega) (by rw [kv_sz_push, hcs]; omega)
        rw [← hρl]
        exact this
      · cases hhp
    · cases hhp
  | newarray t =>
    obtain rfl : len = 2 := by simpa [kv_lok, kv_il] using hlen
    cases t with
    | int =>
      simp only [kv_hp] at hhp
      split at hhp
      · rename_i n r
        split at hhp
        · cases hhp
        · rename_i hcond
          cases hhp
          exact kv_newI_W hx hb hts heo hρ hP hsz hS hdg (fun z => hcond (Or.inl z)) (by omega) (by omega) hc hs kk
      · cases hhp
    | long =>
      simp only [kv_hp] at hhp
      split at hhp
      · rename_i n r
        split at hhp
        · cases hhp
        · rename_i hcond
          cases hhp
          exact kv_newJ_W hx hb hts heo hρ hP hsz hS hdg (fun z => hcond (Or.inl z)) (by omega) (by omega) hc hs kk
      · cases hhp
    | _ => exact absurd (show (none : Option (Nat × List Value × kv_H)) = some _ from hhp) (by simp)
  | anewarray i =>
    obtain rfl : len = 3 := by simpa [kv_lok, kv_il] using hlen
    simp only [kv_hp] at hhp
    split at hhp
    · rename_i n r
      split at hhp
      · rename_i t pp hq
        split at hhp
        · cases hhp
        · rename_i hcond
          cases hhp
          obtain ⟨g1, g2⟩ := kv_an_s hq
          dsimp only at g1 g2
          rw [List.length_append] at hc
          rw [kv_sz_push] at hs
          simp only [kv_cs, List.length_cons, List.length_nil] at hc hs
          have hρl : ρ h.length = B + h.length := hρ _ (by omega)
          refine W.anew hx hb hown (hts _ g1) (va_AO.use (heo.2.2.2.2 t g2)) rfl hdg rfl (fun z => hcond (Or.inl z)) (by omega) (by omega) (by omega) fun cB kA comp f1 f2 f3 f4 => ?_
          have hcB : cB = cA t := by
            rcases g2 with rfl | rfl
            · obtain ⟨_, _, -, -, -, k4⟩ := (heo.1.2 2 _ rfl).2
              exact Option.some.inj (f1.symm.trans k4)
            · obtain ⟨_, _, -, -, -, k4⟩ := (heo.1.2 3 _ rfl).2
              exact Option.some.inj (f1.symm.trans k4)
          subst hcB
          generalize hH1 : H.push ({ cls := cA t, slots := Array.replicate n.toNatClampNeg .null, vm := .none } : Cell) = H1
          have z1 : H1.size = H.size + 1 := by rw [← hH1, Array.size_push]
          have e1 : H1[H.size]? = some (arrV (cA t) n.toNatClampNeg (fun _ => .null)) := by rw [← hH1, Array.getElem?_push_size, ← arrV_new]
          have o1 : ∀ q : Nat, q < H.size → H1[q]? = H[q]? := fun q hq => by rw [← hH1, Array.getElem?_push, if_neg (Nat.ne_of_lt hq)]
          have := kk H1 locs (cells + 1) (slots + n.toNatClampNeg) (kv_push_P hP (by
            show H1[ρ h.length]? = some (vp_cell _ _)
            rw [hρl, ← hsz, vp_cell_q]
            exact e1) o1) (by rw [z1, hsz, List.length_append]; simp; omega) (kv_push_S hS z1 o1) (by rw [List.length_append]; simp; omega) (by rw [kv_sz_push]; simp only [kv_cs]; omega)
          rw [hsz, ← hρl]
          exact this
      · cases hhp
    · cases hhp
  | invokestatic i =>
    obtain rfl : len = 3 := by simpa [kv_lok, kv_il] using hlen
    simp only [kv_hp] at hhp
    split at hhp
    · rename_i pp hq
      split at hhp
      · split at hhp
        · rename_i n dp a sp a0 r _ _ _ n0 f n1 g hh0 hh1
          split at hhp
          · cases hhp
          · rename_i hcond
            cases hhp
            exact kv_copy_W hx hb hml hown hts heo hRf hRl hD hP hS hq hh0 hh1 (fun z => hcond (Or.inl z)) (fun z => hcond (Or.inr (Or.inl z))) (fun z => hcond (Or.inr (Or.inr (Or.inl z)))) (Nat.not_lt.mp fun z => hcond (Or.inr (Or.inr (Or.inr (Or.inl z))))) (Nat.not_lt.mp fun z => hcond (Or.inr (Or.inr (Or.inr (Or.inr (Or.inl z)))))) hls (by rw [kv_ms_cat]; exact Nat.not_lt.mp fun z => hcond (Or.inr (Or.inr (Or.inr (Or.inr (Or.inr z)))))) hdg (kset _ _ _ hh1 rfl rfl)
        · cases hhp
      · cases hhp
    · cases hhp
  | _ => exact absurd (show (none : Option (Nat × List Value × kv_H)) = some _ from hhp) (by simp)
end KVI
