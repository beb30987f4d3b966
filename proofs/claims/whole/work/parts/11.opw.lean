/-! INSTRUCTIONS THAT LEAVE THE HEAP, all of them -/
section KVP
variable {p : Program} {l : Launch} {e : Env} {R : Room} {s : State} {m : MethodId} {args : Array Value} {below : List Frame} {meth : Method} {c : Code} {H : Heap} {locs : List Loc} {cells slots : Nat} {Q : State → Prop}
variable {cc : ByteArray} {E : kv_V} {D : va_G} {ρ : Nat → Nat} {cA : Nat → ClassId} {B o nL : Nat}
theorem kv_nlen {i : Instr} {len : Nat} (h : (len == kv_il i) = true) : len = kv_il i := by simpa using h
theorem kv_rem (x y : Int32) : x - x / y * y = x % y := Int32.toInt_inj.mp (by rw [rem_toInt, Int32.toInt_mod])
theorem kv_icW {pc pc' tgt : Nat} {b : Bool} (hp : (if b = true then tgt else pc + 3) = pc') {P : Nat → Prop} (kk : P pc') : (b = true → P tgt) ∧ (¬ b = true → P (pc + 3)) := by
  refine ⟨fun h => ?_, fun h => ?_⟩
  · rw [if_pos h] at hp; rw [hp]; exact kk
  · rw [if_neg h] at hp; rw [hp]; exact kk
set_option maxHeartbeats 4000000 in
set_option maxRecDepth 100000 in
theorem kv_op_W (hx : p.tables.exec = Jvm.exec) (hb : c.code = cc) (hml : c.maxLocals = nL) (hown : s.vm.findClass (kv_cn o) = some m.cls) (hts : ∀ w ∈ kv_tb, w.before args s = true) (heo : kv_eo E D ρ cA B s) (hRf : 1 ≤ R.frames) (hRl : 60 ≤ R.locals) (hRc : cells ≤ R.cells) (hRs : slots ≤ R.slots)
    {h : kv_H} (hP : va_P D vwCl (kv_w ρ cA h) H) (hS : va_S (fun q => B ≤ q) s.heap H locs) {ins : Instr} {len pc pc' : Nat} {L L' : kv_L} {st st' : List Value} {ls : Array Slot} (hl : lv_has ls nL (kv_al ρ L)) (hnd : kv_nd L) (hLl : L.length = nL)
    (hop : kv_op E o ins len pc L st h = some (pc', L', st')) (hdg : decode cc pc = .ok (ins, len)) (hlen : kv_lok (ins, len) = true)
    (kk : ∀ ls' : Array Slot, lv_has ls' nL (kv_al ρ L') → kv_nd L' → L'.length = nL → W p l e R s m args below meth c H locs cells slots Q (F0 m pc' ls' (kv_ms ρ st'))) :
    W p l e R s m args below meth c H locs cells slots Q (F0 m pc ls (kv_ms ρ st)) := by
  cases ins with
  | iconst n =>
    obtain rfl : len = 1 := by simpa [kv_lok, kv_il] using hlen
    simp only [kv_op] at hop
    cases hop
    exact lv_iconst hx hb hdg rfl (kk ls hl hnd hLl)
  | bipush n =>
    obtain rfl : len = 2 := by simpa [kv_lok, kv_il] using hlen
    simp only [kv_op] at hop
    cases hop
    exact lv_bipush hx hb hdg rfl (kk ls hl hnd hLl)
  | sipush n =>
    obtain rfl : len = 3 := by simpa [kv_lok, kv_il] using hlen
    simp only [kv_op] at hop
    cases hop
    exact lv_sipush hx hb hdg rfl (kk ls hl hnd hLl)
  | lconst n =>
    obtain rfl : len = 1 := by simpa [kv_lok, kv_il] using hlen
    simp only [kv_op] at hop
    cases hop
    exact lv_lconst hx hb hdg rfl (kk ls hl hnd hLl)
  | aconst_null =>
    obtain rfl : len = 1 := by simpa [kv_lok, kv_il] using hlen
    simp only [kv_op] at hop
    cases hop
    exact lv_null hx hb hdg (kk ls hl hnd hLl)
  | ldc i =>
    obtain rfl : len = 2 := by simpa [kv_lok, kv_il] using hlen
    simp only [kv_op] at hop
    obtain ⟨w, h1, rfl, rfl, rfl⟩ := kv_psh_s hop
    cases hq : kv_lk kv_ct o i with
    | none => rw [hq] at h1; cases h1
    | some q =>
      rw [hq] at h1; cases h1
      have h2 := kv_okw_in (List.all_eq_true.mp kv_ct_ok _ (kv_lk_s hq))
      exact lv_ldc hx hb hown (hts _ h2) hdg (kk ls hl hnd hLl)
  | ldc_w i =>
    obtain rfl : len = 3 := by simpa [kv_lok, kv_il] using hlen
    simp only [kv_op] at hop
    obtain ⟨w, h1, rfl, rfl, rfl⟩ := kv_psh_s hop
    cases hq : kv_lk kv_ct o i with
    | none => rw [hq] at h1; cases h1
    | some q =>
      rw [hq] at h1; cases h1
      have h2 := kv_okw_in (List.all_eq_true.mp kv_ct_ok _ (kv_lk_s hq))
      exact lv_ldcw hx hb hown (hts _ h2) hdg (kk ls hl hnd hLl)
  | ldc2_w i =>
    obtain rfl : len = 3 := by simpa [kv_lok, kv_il] using hlen
    simp only [kv_op] at hop
    obtain ⟨w, h1, rfl, rfl, rfl⟩ := kv_psh_s hop
    cases hq : kv_lk kv_cl o i with
    | none => rw [hq] at h1; cases h1
    | some q =>
      rw [hq] at h1; cases h1
      have h2 := kv_okw_in (List.all_eq_true.mp kv_cl_ok _ (kv_lk_s hq))
      exact lv_ldc2 hx hb hown (hts _ h2) hdg (kk ls hl hnd hLl)
  | iload_n n =>
    obtain rfl : len = 1 := by simpa [kv_lok, kv_il] using hlen
    simp only [kv_op] at hop
    obtain ⟨w, h1, rfl, rfl, rfl⟩ := kv_psh_s hop
    obtain ⟨h2, h3⟩ := kv_ld_s h1
    obtain ⟨x, rfl⟩ := kv_isI_s h3
    exact lv_iload_n hx hb hdg rfl (kv_al_at hl h2) (kk ls hl hnd hLl)
  | iload n =>
    obtain rfl : len = 2 := by simpa [kv_lok, kv_il] using hlen
    simp only [kv_op] at hop
    obtain ⟨w, h1, rfl, rfl, rfl⟩ := kv_psh_s hop
    obtain ⟨h2, h3⟩ := kv_ld_s h1
    obtain ⟨x, rfl⟩ := kv_isI_s h3
    exact lv_iload hx hb hdg (kv_al_at hl h2) (kk ls hl hnd hLl)
  | lload_n n =>
    obtain rfl : len = 1 := by simpa [kv_lok, kv_il] using hlen
    simp only [kv_op] at hop
    obtain ⟨w, h1, rfl, rfl, rfl⟩ := kv_psh_s hop
    obtain ⟨h2, h3⟩ := kv_ld_s h1
    obtain ⟨x, rfl⟩ := kv_isL_s h3
    exact lv_lload_n hx hb hdg rfl (kv_al_at hl h2) (kk ls hl hnd hLl)
  | lload n =>
    obtain rfl : len = 2 := by simpa [kv_lok, kv_il] using hlen
    simp only [kv_op] at hop
    obtain ⟨w, h1, rfl, rfl, rfl⟩ := kv_psh_s hop
    obtain ⟨h2, h3⟩ := kv_ld_s h1
    obtain ⟨x, rfl⟩ := kv_isL_s h3
    exact lv_lload hx hb hdg (kv_al_at hl h2) (kk ls hl hnd hLl)
  | aload_n n =>
    obtain rfl : len = 1 := by simpa [kv_lok, kv_il] using hlen
    simp only [kv_op] at hop
    obtain ⟨w, h1, rfl, rfl, rfl⟩ := kv_psh_s hop
    obtain ⟨h2, h3⟩ := kv_ld_s h1
    rcases kv_isA_s h3 with rfl | ⟨x, rfl⟩
    · exact lv_aload_nN hx hb hdg rfl (kv_al_at hl h2) (kk ls hl hnd hLl)
    · exact lv_aload_n hx hb hdg rfl (kv_al_at hl h2) (kk ls hl hnd hLl)
  | aload n =>
    obtain rfl : len = 2 := by simpa [kv_lok, kv_il] using hlen
    simp only [kv_op] at hop
    obtain ⟨w, h1, rfl, rfl, rfl⟩ := kv_psh_s hop
    obtain ⟨h2, h3⟩ := kv_ld_s h1
    rcases kv_isA_s h3 with rfl | ⟨x, rfl⟩
    · exact lv_aloadN hx hb hdg (kv_al_at hl h2) (kk ls hl hnd hLl)
    · exact lv_aload hx hb hdg (kv_al_at hl h2) (kk ls hl hnd hLl)
  | istore_n n =>
    obtain rfl : len = 1 := by simpa [kv_lok, kv_il] using hlen
    simp only [kv_op] at hop
    split at hop
    · split at hop
      · rename_i hn
        cases hop
        exact lv_istore_n hx hb hdg rfl hl (by rw [← hLl]; exact hn) rfl (fun ls2 hl2 => kk ls2 (kv_has_st1 hnd hl2) (kv_nd_st1 hnd rfl) (by rw [kv_st1_len]; exact hLl))
      · cases hop
    · cases hop
  | istore n =>
    obtain rfl : len = 2 := by simpa [kv_lok, kv_il] using hlen
    simp only [kv_op] at hop
    split at hop
    · split at hop
      · rename_i hn
        cases hop
        exact lv_istore hx hb hdg hl (by rw [← hLl]; exact hn) rfl (fun ls2 hl2 => kk ls2 (kv_has_st1 hnd hl2) (kv_nd_st1 hnd rfl) (by rw [kv_st1_len]; exact hLl))
      · cases hop
    · cases hop
  | lstore_n n =>
    obtain rfl : len = 1 := by simpa [kv_lok, kv_il] using hlen
    simp only [kv_op] at hop
    split at hop
    · split at hop
      · rename_i hn
        cases hop
        exact lv_lstore_n hx hb hdg rfl hl (by rw [← hLl]; exact hn) rfl (fun ls2 hl2 => kk ls2 (kv_has_st2 hnd hl2) (kv_nd_st2 hnd) (by rw [kv_st2_len]; exact hLl))
      · cases hop
    · cases hop
  | lstore n =>
    obtain rfl : len = 2 := by simpa [kv_lok, kv_il] using hlen
    simp only [kv_op] at hop
    split at hop
    · split at hop
      · rename_i hn
        cases hop
        exact lv_lstore hx hb hdg hl (by rw [← hLl]; exact hn) rfl (fun ls2 hl2 => kk ls2 (kv_has_st2 hnd hl2) (kv_nd_st2 hnd) (by rw [kv_st2_len]; exact hLl))
      · cases hop
    · cases hop
  | astore_n n =>
    obtain rfl : len = 1 := by simpa [kv_lok, kv_il] using hlen
    simp only [kv_op] at hop
    split at hop
    · split at hop
      · rename_i hn
        cases hop
        exact lv_astore_n hx hb hdg rfl hl (by rw [← hLl]; exact hn) rfl (fun ls2 hl2 => kk ls2 (kv_has_st1 hnd hl2) (kv_nd_st1 hnd rfl) (by rw [kv_st1_len]; exact hLl))
      · cases hop
    · split at hop
      · rename_i hn
        cases hop
        exact lv_astore_nN hx hb hdg rfl hl (by rw [← hLl]; exact hn) rfl (fun ls2 hl2 => kk ls2 (kv_has_st1 hnd hl2) (kv_nd_st1 hnd rfl) (by rw [kv_st1_len]; exact hLl))
      · cases hop
    · cases hop
  | astore n =>
    obtain rfl : len = 2 := by simpa [kv_lok, kv_il] using hlen
    simp only [kv_op] at hop
    split at hop
    · split at hop
      · rename_i hn
        cases hop
        exact lv_astore hx hb hdg hl (by rw [← hLl]; exact hn) rfl (fun ls2 hl2 => kk ls2 (kv_has_st1 hnd hl2) (kv_nd_st1 hnd rfl) (by rw [kv_st1_len]; exact hLl))
      · cases hop
    · split at hop
      · rename_i hn
        cases hop
        exact lv_astoreN hx hb hdg hl (by rw [← hLl]; exact hn) rfl (fun ls2 hl2 => kk ls2 (kv_has_st1 hnd hl2) (kv_nd_st1 hnd rfl) (by rw [kv_st1_len]; exact hLl))
      · cases hop
    · cases hop
  | iinc i n =>
    obtain rfl : len = 3 := by simpa [kv_lok, kv_il] using hlen
    simp only [kv_op] at hop
    split at hop
    · rename_i x hg
      split at hop
      · rename_i hn
        cases hop
        have hm : (i, Value.int x) ∈ kv_al ρ L := kv_al_mem.mpr ⟨_, hg, rfl⟩
        obtain ⟨k, hk⟩ := List.getElem?_of_mem hm
        exact lv_iinc hx hb hdg hl hk rfl (by rw [← hLl]; exact hn) rfl (fun ls2 hl2 => kk ls2 (kv_has_st1 hnd hl2) (kv_nd_st1 hnd rfl) (by rw [kv_st1_len]; exact hLl))
      · cases hop
    · cases hop
  | iadd =>
    obtain rfl : len = 1 := by simpa [kv_lok, kv_il] using hlen
    simp only [kv_op] at hop
    split at hop
    · cases hop
      exact lv_iadd hx hb hdg (kk ls hl hnd hLl)
    · cases hop
  | isub =>
    obtain rfl : len = 1 := by simpa [kv_lok, kv_il] using hlen
    simp only [kv_op] at hop
    split at hop
    · cases hop
      exact lv_isub hx hb hdg (kk ls hl hnd hLl)
    · cases hop
  | imul =>
    obtain rfl : len = 1 := by simpa [kv_lok, kv_il] using hlen
    simp only [kv_op] at hop
    split at hop
    · cases hop
      exact lv_imul hx hb hdg (kk ls hl hnd hLl)
    · cases hop
  | iand =>
    obtain rfl : len = 1 := by simpa [kv_lok, kv_il] using hlen
    simp only [kv_op] at hop
    split at hop
    · cases hop
      exact lv_iand hx hb hdg (kk ls hl hnd hLl)
    · cases hop
  | ior =>
    obtain rfl : len = 1 := by simpa [kv_lok, kv_il] using hlen
    simp only [kv_op] at hop
    split at hop
    · cases hop
      exact lv_ior hx hb hdg (kk ls hl hnd hLl)
    · cases hop
  | ixor =>
    obtain rfl : len = 1 := by simpa [kv_lok, kv_il] using hlen
    simp only [kv_op] at hop
    split at hop
    · cases hop
      exact lv_ixor hx hb hdg (kk ls hl hnd hLl)
    · cases hop
  | ineg =>
    obtain rfl : len = 1 := by simpa [kv_lok, kv_il] using hlen
    simp only [kv_op] at hop
    split at hop
    · cases hop
      exact lv_ineg hx hb hdg (kk ls hl hnd hLl)
    · cases hop
  | ishl =>
    obtain rfl : len = 1 := by simpa [kv_lok, kv_il] using hlen
    simp only [kv_op] at hop
    split at hop
    · cases hop
      exact lv_ishl hx hb hdg (kk ls hl hnd hLl)
    · cases hop
  | ishr =>
    obtain rfl : len = 1 := by simpa [kv_lok, kv_il] using hlen
    simp only [kv_op] at hop
    split at hop
    · cases hop
      exact lv_ishr hx hb hdg (kk ls hl hnd hLl)
    · cases hop
  | land =>
    obtain rfl : len = 1 := by simpa [kv_lok, kv_il] using hlen
    simp only [kv_op] at hop
    split at hop
    · cases hop
      exact lv_land hx hb hdg (kk ls hl hnd hLl)
    · cases hop
  | lor =>
    obtain rfl : len = 1 := by simpa [kv_lok, kv_il] using hlen
    simp only [kv_op] at hop
    split at hop
    · cases hop
      exact lv_lor hx hb hdg (kk ls hl hnd hLl)
    · cases hop
  | iushr =>
    obtain rfl : len = 1 := by simpa [kv_lok, kv_il] using hlen
    simp only [kv_op] at hop
    split at hop
    · cases hop
      exact lv_iushr hx hb hdg rfl (kk ls hl hnd hLl)
    · cases hop
  | lshl =>
    obtain rfl : len = 1 := by simpa [kv_lok, kv_il] using hlen
    simp only [kv_op] at hop
    split at hop
    · cases hop
      exact lv_lshl hx hb hdg rfl (kk ls hl hnd hLl)
    · cases hop
  | lshr =>
    obtain rfl : len = 1 := by simpa [kv_lok, kv_il] using hlen
    simp only [kv_op] at hop
    split at hop
    · cases hop
      exact lv_lshr hx hb hdg rfl (kk ls hl hnd hLl)
    · cases hop
  | lushr =>
    obtain rfl : len = 1 := by simpa [kv_lok, kv_il] using hlen
    simp only [kv_op] at hop
    split at hop
    · cases hop
      exact lv_lushr hx hb hdg rfl (kk ls hl hnd hLl)
    · cases hop
  | i2l =>
    obtain rfl : len = 1 := by simpa [kv_lok, kv_il] using hlen
    simp only [kv_op] at hop
    split at hop
    · cases hop
      exact lv_i2l hx hb hdg rfl (kk ls hl hnd hLl)
    · cases hop
  | l2i =>
    obtain rfl : len = 1 := by simpa [kv_lok, kv_il] using hlen
    simp only [kv_op] at hop
    split at hop
    · cases hop
      exact lv_l2i hx hb hdg rfl (kk ls hl hnd hLl)
    · cases hop
  | i2b =>
    obtain rfl : len = 1 := by simpa [kv_lok, kv_il] using hlen
    simp only [kv_op] at hop
    split at hop
    · cases hop
      exact lv_i2b hx hb hdg rfl (kk ls hl hnd hLl)
    · cases hop
  | i2s =>
    obtain rfl : len = 1 := by simpa [kv_lok, kv_il] using hlen
    simp only [kv_op] at hop
    split at hop
    · cases hop
      exact lv_i2s hx hb hdg rfl (kk ls hl hnd hLl)
    · cases hop
  | irem =>
    obtain rfl : len = 1 := by simpa [kv_lok, kv_il] using hlen
    simp only [kv_op] at hop
    split at hop
    · split at hop
      · cases hop
      · rename_i hne
        cases hop
        exact lv_irem hx hb hdg hne (by rw [kv_rem]; exact (kk ls hl hnd hLl))
    · cases hop
  | idiv =>
    obtain rfl : len = 1 := by simpa [kv_lok, kv_il] using hlen
    simp only [kv_op] at hop
    split at hop
    · split at hop
      · cases hop
      · rename_i hne
        cases hop
        exact lv_idiv hx hb hdg hne (kk ls hl hnd hLl)
    · cases hop
  | lcmp =>
    obtain rfl : len = 1 := by simpa [kv_lok, kv_il] using hlen
    simp only [kv_op] at hop
    split at hop
    · cases hop
      exact W.lcmp hx hb hdg (kk ls hl hnd hLl)
    · cases hop
  | dup =>
    obtain rfl : len = 1 := by simpa [kv_lok, kv_il] using hlen
    simp only [kv_op] at hop
    split at hop
    · cases hop
      exact lv_dup hx hb hdg rfl (kk ls hl hnd hLl)
    · cases hop
      exact lv_dup hx hb hdg rfl (kk ls hl hnd hLl)
    · cases hop
  | dup2 =>
    obtain rfl : len = 1 := by simpa [kv_lok, kv_il] using hlen
    simp only [kv_op] at hop
    split at hop
    · cases hop
      exact lv_dup2_11 hx hb hdg rfl rfl (kk ls hl hnd hLl)
    · cases hop
  | goto off =>
    obtain rfl : len = 3 := by simpa [kv_lok, kv_il] using hlen
    simp only [kv_op] at hop
    obtain ⟨h1, rfl, rfl⟩ := kv_sw_s hop
    exact lv_goto hx hb hdg (kv_j_s h1) (kk ls hl hnd hLl)
  | ifCond cn off =>
    obtain rfl : len = 3 := by simpa [kv_lok, kv_il] using hlen
    simp only [kv_op] at hop
    split at hop
    · obtain ⟨h1, rfl, rfl⟩ := kv_sw_s hop
      cases hj : kv_j pc off with
      | none => rw [hj] at h1; cases h1
      | some tgt =>
        rw [hj] at h1
        have hp := Option.some.inj h1
        obtain ⟨k1, k2⟩ := kv_icW (P := fun q => W p l e R s m args below meth c H locs cells slots Q (F0 m q ls (kv_ms ρ _))) hp (kk ls hl hnd hLl)
        cases cn with
        | eq => exact lv_if_eq hx hb hdg (kv_j_s hj) (fun q => k1 (decide_eq_true q)) (fun q => k2 (fun z => q (of_decide_eq_true z)))
        | ne => exact lv_if_ne hx hb hdg (kv_j_s hj) (fun q => k1 (by simp only [kv_ic, Bool.not_eq_true', decide_eq_false_iff_not]; exact q)) (fun q => k2 (by simp only [kv_ic, Bool.not_eq_true', decide_eq_false_iff_not]; exact fun z => z q))
        | lt => exact lv_if_lt hx hb hdg (kv_j_s hj) (fun q => k1 (decide_eq_true q)) (fun q => k2 (fun z => q (of_decide_eq_true z)))
        | ge => exact lv_if_ge hx hb hdg (kv_j_s hj) (fun q => k1 (decide_eq_true q)) (fun q => k2 (fun z => q (of_decide_eq_true z)))
        | gt => exact lv_if_gt hx hb hdg (kv_j_s hj) (fun q => k1 (decide_eq_true q)) (fun q => k2 (fun z => q (of_decide_eq_true z)))
        | le => exact lv_if_le hx hb hdg (kv_j_s hj) (fun q => k1 (decide_eq_true q)) (fun q => k2 (fun z => q (of_decide_eq_true z)))
    · cases hop
  | if_icmp cn off =>
    obtain rfl : len = 3 := by simpa [kv_lok, kv_il] using hlen
    simp only [kv_op] at hop
    split at hop
    · obtain ⟨h1, rfl, rfl⟩ := kv_sw_s hop
      cases hj : kv_j pc off with
      | none => rw [hj] at h1; cases h1
      | some tgt =>
        rw [hj] at h1
        have hp := Option.some.inj h1
        obtain ⟨k1, k2⟩ := kv_icW (P := fun q => W p l e R s m args below meth c H locs cells slots Q (F0 m q ls (kv_ms ρ _))) hp (kk ls hl hnd hLl)
        cases cn with
        | eq => exact lv_icmp_eq hx hb hdg (kv_j_s hj) (fun q => k1 (decide_eq_true q)) (fun q => k2 (fun z => q (of_decide_eq_true z)))
        | ne => exact lv_icmp_ne hx hb hdg (kv_j_s hj) (fun q => k1 (by simp only [kv_ic, Bool.not_eq_true', decide_eq_false_iff_not]; exact q)) (fun q => k2 (by simp only [kv_ic, Bool.not_eq_true', decide_eq_false_iff_not]; exact fun z => z q))
        | lt => exact lv_icmp_lt hx hb hdg (kv_j_s hj) (fun q => k1 (decide_eq_true q)) (fun q => k2 (fun z => q (of_decide_eq_true z)))
        | ge => exact lv_icmp_ge hx hb hdg (kv_j_s hj) (fun q => k1 (decide_eq_true q)) (fun q => k2 (fun z => q (of_decide_eq_true z)))
        | gt => exact lv_icmp_gt hx hb hdg (kv_j_s hj) (fun q => k1 (decide_eq_true q)) (fun q => k2 (fun z => q (of_decide_eq_true z)))
        | le => exact lv_icmp_le hx hb hdg (kv_j_s hj) (fun q => k1 (decide_eq_true q)) (fun q => k2 (fun z => q (of_decide_eq_true z)))
    · cases hop
  | ifnull off =>
    obtain rfl : len = 3 := by simpa [kv_lok, kv_il] using hlen
    simp only [kv_op] at hop
    split at hop
    · obtain ⟨h1, rfl, rfl⟩ := kv_sw_s hop
      exact lv_ifnullN hx hb hdg (kv_j_s h1) (kk ls hl hnd hLl)
    · cases hop
      exact lv_ifnull hx hb hdg (kk ls hl hnd hLl)
    · cases hop
  | ifnonnull off =>
    obtain rfl : len = 3 := by simpa [kv_lok, kv_il] using hlen
    simp only [kv_op] at hop
    split at hop
    · cases hop
      exact lv_ifnonnullN hx hb hdg (kk ls hl hnd hLl)
    · obtain ⟨h1, rfl, rfl⟩ := kv_sw_s hop
      exact lv_ifnonnull hx hb hdg (kv_j_s h1) (kk ls hl hnd hLl)
    · cases hop
  | tableswitch d lo hi offs =>
    simp only [kv_op] at hop
    split at hop
    · rename_i x r
      split at hop
      · rename_i hc
        obtain ⟨h1, rfl, rfl⟩ := kv_sw_s hop
        exact lv_tableOut hx hb hdg hc (kv_j_s h1) (kk ls hl hnd hLl)
      · rename_i hc
        obtain ⟨h1, rfl, rfl⟩ := kv_sw_s hop
        cases ho : offs[(x.toInt - lo).toNat]? with
        | none => rw [ho] at h1; cases h1
        | some off =>
          rw [ho] at h1
          exact lv_tableIn hx hb hdg (fun z => hc (Or.inl z)) (fun z => hc (Or.inr z)) ho (kv_j_s h1) (kk ls hl hnd hLl)
    · cases hop
  | lookupswitch d ps =>
    simp only [kv_op] at hop
    split at hop
    · split at hop
      · rename_i hc
        obtain ⟨h1, rfl, rfl⟩ := kv_sw_s hop
        exact lv_lookup hx hb hdg hc rfl (kv_j_s h1) (kk ls hl hnd hLl)
      · cases hop
    · cases hop
  | iaload =>
    obtain rfl : len = 1 := by simpa [kv_lok, kv_il] using hlen
    simp only [kv_op] at hop
    split at hop
    · obtain ⟨w, h1, rfl, rfl, rfl⟩ := kv_psh_s hop
      exact kv_rd_W hx hb heo hP hS h1 (Or.inl ⟨rfl, hdg⟩) (kk ls hl hnd hLl)
    · cases hop
  | caload =>
    obtain rfl : len = 1 := by simpa [kv_lok, kv_il] using hlen
    simp only [kv_op] at hop
    split at hop
    · obtain ⟨w, h1, rfl, rfl, rfl⟩ := kv_psh_s hop
      exact kv_rd_W hx hb heo hP hS h1 (Or.inr ⟨rfl, hdg⟩) (kk ls hl hnd hLl)
    · cases hop
  | laload =>
    obtain rfl : len = 1 := by simpa [kv_lok, kv_il] using hlen
    simp only [kv_op] at hop
    split at hop
    · obtain ⟨w, h1, rfl, rfl, rfl⟩ := kv_psh_s hop
      exact kv_rdl_W hx hb heo hP h1 hdg (kk ls hl hnd hLl)
    · cases hop
  | aaload =>
    obtain rfl : len = 1 := by simpa [kv_lok, kv_il] using hlen
    simp only [kv_op] at hop
    split at hop
    · obtain ⟨w, h1, rfl, rfl, rfl⟩ := kv_psh_s hop
      exact kv_rda_W hx hb heo hP h1 hdg (kk ls hl hnd hLl)
    · cases hop
  | arraylength =>
    obtain rfl : len = 1 := by simpa [kv_lok, kv_il] using hlen
    simp only [kv_op] at hop
    split at hop
    · obtain ⟨w, h1, rfl, rfl, rfl⟩ := kv_psh_s hop
      exact kv_len_W hx hb heo hP hS h1 hdg (kk ls hl hnd hLl)
    · cases hop
  | getfield i =>
    obtain rfl : len = 3 := by simpa [kv_lok, kv_il] using hlen
    simp only [kv_op] at hop
    split at hop
    · obtain ⟨w, h1, rfl, rfl, rfl⟩ := kv_psh_s hop
      exact kv_fld_W hx hb hown hts heo hP h1 hdg (kk ls hl hnd hLl)
    · cases hop
  | getstatic i =>
    obtain rfl : len = 3 := by simpa [kv_lok, kv_il] using hlen
    simp only [kv_op] at hop
    obtain ⟨w, h1, rfl, rfl, rfl⟩ := kv_psh_s hop
    cases hq : kv_lk kv_sf o i with
    | none => rw [hq] at h1; cases h1
    | some q =>
      rw [hq] at h1; cases h1
      have h2 := List.all_eq_true.mp kv_sf_ok _ (kv_lk_s hq)
      simp only [Bool.and_eq_true, decide_eq_true_eq] at h2
      exact va_gets hx hb (heo.2.2.1 q.1 h2.2) hS hown (hts _ (kv_okw_in h2.1)) (fun x h9 => h9) hdg (kk ls hl hnd hLl)
  | invokespecial i =>
    obtain rfl : len = 3 := by simpa [kv_lok, kv_il] using hlen
    simp only [kv_op] at hop
    split at hop
    · rename_i q hq
      split at hop
      · split at hop
        · rename_i hsum
          cases hop
          have h2 := kv_okw_in (List.all_eq_true.mp kv_oi_ok _ (kv_lk_s hq))
          refine W.objInit hx hb hown (hts _ h2) (hts _ (kv_w1_in (by simp [kv_w1]))) (hts _ (kv_w1_in (by simp [kv_w1]))) rfl (by rw [hml]; exact hl.1) rfl hdg hRf ?_ (kk ls hl hnd hLl)
          show 2 * 0 + ((kv_ms ρ _).map fun v => v.category).sum + 12 ≤ R.locals
          rw [kv_ms_cat]
          omega
        · cases hop
      · cases hop
    · cases hop
  | invokestatic i =>
    obtain rfl : len = 3 := by simpa [kv_lok, kv_il] using hlen
    simp only [kv_op] at hop
    split at hop
    · rename_i q hq
      split at hop
      · split at hop
        · rename_i hsum
          cases hop
          have h2 := kv_okw_in (List.all_eq_true.mp kv_mm_ok _ (kv_lk_s hq))
          refine va_mabs hx hb (by rw [hml]; exact hl.1.symm) hown (hts _ h2) (hts _ (kv_w1_in (by simp [kv_w1]))) (hts _ (kv_w1_in (by simp [kv_w1]))) (hts _ (kv_w1_in (by simp [kv_w1]))) hRf ?_ hRc hRs hdg (kk ls hl hnd hLl)
          show ((kv_ms ρ _).map fun v => v.category).sum + 13 ≤ R.locals
          rw [kv_ms_cat]
          omega
        · cases hop
      · cases hop
    · rename_i q hq
      split at hop
      · split at hop
        · rename_i hsum
          cases hop
          have h2 := kv_okw_in (List.all_eq_true.mp kv_mm_ok _ (kv_lk_s hq))
          refine va_mmax hx hb (by rw [hml]; exact hl.1.symm) hown (hts _ h2) (hts _ (kv_w1_in (by simp [kv_w1]))) (hts _ (kv_w1_in (by simp [kv_w1]))) (hts _ (kv_w1_in (by simp [kv_w1]))) hRf ?_ hRc hRs hdg (kk ls hl hnd hLl)
          show ((kv_ms ρ _).map fun v => v.category).sum + 13 ≤ R.locals
          rw [kv_ms_cat]
          omega
        · cases hop
      · cases hop
    · rename_i q hq
      split at hop
      · split at hop
        · rename_i hsum
          cases hop
          have h2 := kv_okw_in (List.all_eq_true.mp kv_mm_ok _ (kv_lk_s hq))
          refine va_mmin hx hb (by rw [hml]; exact hl.1.symm) hown (hts _ h2) (hts _ (kv_w1_in (by simp [kv_w1]))) (hts _ (kv_w1_in (by simp [kv_w1]))) (hts _ (kv_w1_in (by simp [kv_w1]))) hRf ?_ hRc hRs hdg (kk ls hl hnd hLl)
          show ((kv_ms ρ _).map fun v => v.category).sum + 13 ≤ R.locals
          rw [kv_ms_cat]
          omega
        · cases hop
      · cases hop
    · cases hop
  | _ => exact absurd (show (none : Option kv_R) = some _ from hop) (by simp)
end KVP
