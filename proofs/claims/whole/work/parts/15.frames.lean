/-! A CALL, A FRAME, A METHOD -/
section KVF
variable {p : Program} {l : Launch} {e : Env} {R : Room} {s : State} {m : MethodId} {args : Array Value} {below : List Frame} {meth : Method} {c : Code} {H : Heap} {locs : List Loc} {cells slots : Nat} {Q : State → Prop}
variable {cc : ByteArray} {E : kv_V} {D : va_G} {ρ : Nat → Nat} {cA : Nat → ClassId} {B o nL : Nat}
/-- behind a call's run -/
theorem kv_run_W {mc ms : Nat} {v : Option Value} {h1 : kv_H} {a : Array Value} {pc : Nat} {ls : Array Slot} {st0 rest : List Value} (hS : va_S (fun q => B ≤ q) s.heap H locs)
    (hr : va_Run p l e R s m args below meth c H locs cells slots mc ms (F0 m pc ls st0) (kv_ms ρ rest) (kv_qc D ρ cA B v h1 a) (fun q => B ≤ q))
    (kk : ∀ (H' : Heap) (locs' : List Loc), va_P D vwCl (kv_w ρ cA h1) H' → H'.size = B + h1.length → va_S (fun q => B ≤ q) s.heap H' locs' → W p l e R s m args below meth c H' locs' (cells + mc) (slots + ms) Q (F0 m (pc + 3) ls (kv_ms ρ (v.toList ++ rest)))) :
    W p l e R s m args below meth c H locs cells slots Q (F0 m pc ls st0) := by
  intro T hT X
  obtain ⟨w, st₀, t, T', L, h0, X', hL, e1, e2, ⟨q1, q2, q3, q4, q5⟩, st⟩ := hr T hT X
  have hw : w = v.map (kv_mv ρ) := by cases q1; rfl
  rw [h0] at q4 q5
  obtain ⟨t2, a1, b1⟩ := kk T'.heap (locs ++ L) (by rw [e1]; exact q2) (by rw [e1]; exact q3)
    ⟨Nat.le_trans hS.1 (by rw [e1]; exact q4), fun q g1 g2 => by rw [e1, q5 q (Nat.lt_of_lt_of_le g1 hS.1) g2]; exact hS.2.1 q g1 g2, fun q hq => by
      rcases List.mem_append.mp hq with h | h
      · exact hS.2.2 q h
      · exact hL q h⟩ T' rfl X'
  refine ⟨t2, st t2 ?_, b1⟩
  have he : w.toList ++ kv_ms ρ rest = kv_ms ρ (v.toList ++ rest) := by
    rw [hw]
    cases v <;> simp
  rw [he]
  exact a1
set_option maxHeartbeats 2000000 in
theorem kv_call_W (hx : p.tables.exec = Jvm.exec) (hb : c.code = cc) (hml : c.maxLocals = nL) (hown : s.vm.findClass (kv_cn o) = some m.cls) (hts : ∀ w ∈ kv_tb, w.before args s = true) (heo : kv_eo E D ρ cA B s) {d : Nat} (hRf : d + 1 ≤ R.frames) (hRl : 60 * d + 60 ≤ R.locals)
    {h h1 : kv_H} (hP : va_P D vwCl (kv_w ρ cA h) H) (hsz : H.size = B + h.length) (hS : va_S (fun q => B ≤ q) s.heap H locs) {ins : Instr} {len pc k z pp : Nat} {st as rest : List Value} {v : Option Value} {ls : Array Slot} (hls : ls.size = nL)
    (hcl : kv_cl1 o ins = some (k, z, pp)) (has : kv_as k z st h = some (as, rest)) (hz : z < kv_nm) (hM : kv_mt1 l E D ρ cA B d z as h v h1) (hdg : decode cc pc = .ok (ins, len)) (hlen : kv_lok (ins, len) = true)
    (hc : cells + (h1.length - h.length) ≤ R.cells) (hs : slots + (kv_sz h1 - kv_sz h) ≤ R.slots)
    (kk : ∀ (H' : Heap) (locs' : List Loc), va_P D vwCl (kv_w ρ cA h1) H' → H'.size = B + h1.length → va_S (fun q => B ≤ q) s.heap H' locs' → W p l e R s m args below meth c H' locs' (cells + (h1.length - h.length)) (slots + (kv_sz h1 - kv_sz h)) Q (F0 m (pc + 3) ls (kv_ms ρ (v.toList ++ rest)))) :
    W p l e R s m args below meth c H locs cells slots Q (F0 m pc ls (kv_ms ρ st)) := by
  obtain ⟨em, -, hem, ⟨⟨ok1, ok2⟩, ⟨ok3, ok4, ok5, ok6, ok7, ok8⟩, ok9⟩, -⟩ := kv_m_lt hz
  have hpre : ∀ U : State, U.heap = H → s.WarmedH U.vm → kv_pc E D ρ cA B as h (as.map (kv_mv ρ)).toArray U := by
    intro U hU hW
    exact ⟨rfl, by rw [hU]; exact hP, by rw [hU]; exact hsz, heo.warm hW (by rw [hU]; exact hS.2.1)⟩
  have hgood : GoodIn kv_tb (kv_ws z) := kv_good (fun w hw => by
    rcases List.mem_cons.mp hw with rfl | hw
    · rw [hem]; exact ok1
    · exact hw)
  have hR : (kv_rm d h h1).frames + 1 ≤ R.frames ∧ 8 + ((kv_m z).2.2.1 + 11) + (kv_rm d h h1).locals ≤ R.locals := ⟨hRf, by rw [hem]; show 8 + (em.2.2.1 + 11) + 60 * d ≤ _; omega⟩
  have hnp : (parseMethodDescriptor (kv_m z).1.desc).map (fun d => d.parameters.length) = some (kv_np z) := by rw [kv_np, hem]; exact ok7
  have hS5 : CallFix p m c cc nL s args kv_tb (kv_cn o) := ⟨hx, hb, hml, hown, hts⟩
  unfold kv_as at has
  split at has
  · rename_i htake
    have hAs : ((st.take (kv_np z)).reverse.map (kv_mv ρ)).length = kv_np z := by rw [List.length_map, List.length_reverse]; exact htake
    have hsplit : kv_ms ρ st = ((st.take (kv_np z)).reverse.map (kv_mv ρ)).reverse ++ kv_ms ρ (st.drop (kv_np z)) := by
      rw [← List.map_reverse, List.reverse_reverse, ← List.map_append, List.take_append_drop]
    have inst : ∀ (b : Nat) (rest' : List Value), st.drop (kv_np z) = .ref b :: rest' → kv_ms ρ st = ((st.take (kv_np z)).reverse.map (kv_mv ρ)).reverse ++ .ref (ρ b) :: kv_ms ρ rest' := by
      intro b rest' hd
      rw [hsplit, hd]
      rfl
    have hsum : ∀ rest' : List Value, (rest'.map fun v => v.category).sum ≤ 8 → 2 * (F0 m pc ls (kv_ms ρ st)).monitorRoom + ((kv_ms ρ rest').map fun v => v.category).sum ≤ 8 := by
      intro rest' hs'
      rw [kv_ms_cat]
      show 2 * 0 + _ ≤ 8
      omega
    cases ins with
    | invokestatic i =>
      obtain rfl : len = 3 := by simpa [kv_lok, kv_il] using hlen
      simp only [kv_cl1] at hcl
      split at hcl
      · rename_i hq
        cases hcl
        have has : (if ((st.drop (kv_np z)).map fun v => v.category).sum ≤ 8 then some ((st.take (kv_np z)).reverse, st.drop (kv_np z)) else none) = some (as, rest) := has
        split at has
        · rename_i h8
          cases has
          have hkd : em.2.2.2.2.2.2.1 = 0 → Jvm.Cond.static (kv_m z).1 ∈ kv_tb := by
            intro h0
            rw [h0] at ok9
            rw [hem]; exact ok9
          have hst := kv_ml_k _ (kv_ml_s hq)
          have hlk := kv_ml_w _ (kv_ml_s hq)
          dsimp only at hst hlk
          rw [kv_kd, hem] at hst
          have h0 := hst.1 rfl
          refine kv_run_W hS (va_runS (As := (st.take (kv_np z)).reverse.map (kv_mv ρ)) hS5 hM (va_cwS (kv_np z) hts (kv_good ?_) rfl rfl rfl ⟨by rw [hem]; exact ok5, by rw [hem]; exact ok6, hnp⟩ hR) ⟨kv_blind, hpre⟩ rfl hAs hls hsplit (hsum _ h8) hdg ⟨hc, hs⟩) kk
          intro w hw
          simp only [va_wsS, List.mem_append, List.mem_cons, List.not_mem_nil, or_false] at hw
          rcases hw with (rfl | rfl | rfl) | hw
          · exact hlk.1 (by decide)
          · exact hkd h0
          · rw [hem]; exact ok2
          · exact (hgood w hw).1
        · cases has
      · cases hcl
    | invokevirtual i =>
      obtain rfl : len = 3 := by simpa [kv_lok, kv_il] using hlen
      simp only [kv_cl1] at hcl
      split at hcl
      · rename_i hq
        cases hcl
        split at has
        · omega
        · split at has
          · rename_i b rest' hd
            split at has
            · rename_i h8
              split at has
              · split at has
                · rename_i ci fs hh
                  split at has
                  · rename_i hci
                    cases has
                    have hst := kv_ml_k _ (kv_ml_s hq)
                    have hlk := kv_ml_w _ (kv_ml_s hq)
                    dsimp only at hst hlk
                    rw [kv_kd, hem] at hst
                    have h0 := hst.2.1 rfl
                    rw [h0] at ok9
                    obtain ⟨w1, w2, w3⟩ := ok9
                    have hoz : kv_o z = em.2.2.2.2.2.1 := by rw [kv_o, hem]
                    obtain ⟨r, hr⟩ := kv_cl_lt (ci := em.2.2.2.2.2.1) w3
                    have hrn := (kv_cok_all _ r hr).1
                    refine kv_run_W hS (va_runV (C := (kv_m z).1.cls) (b := ρ b) (As := (st.take (kv_np z)).reverse.map (kv_mv ρ)) hS5 hM (cwV (kv_np z) hts (kv_good ?_) rfl rfl rfl ⟨rfl, by rw [hem]; exact ok5, by rw [hem]; exact ok6, hnp⟩ hR) ⟨kv_blind, ?_, hpre⟩ rfl hAs hls (inst b _ hd) (hsum _ h8) hdg ⟨hc, hs⟩) kk
                    · intro w hw
                      simp only [wsV, List.mem_append, List.mem_cons, List.not_mem_nil, or_false] at hw
                      rcases hw with (rfl | rfl | rfl | rfl) | hw
                      · exact hlk.1 (by decide)
                      · rw [hem]; exact w1
                      · rw [hem]; exact w2
                      · rw [hem]; exact ok2
                      · exact (hgood w hw).1
                    · rw [hem, ok3, ← hrn]
                      refine va_recv (ci := em.2.2.2.2.2.1) (fs := fs.map (kv_mv ρ)) heo.1 hP hr (q0 := b) ?_
                      rw [kv_w_get hh, hci, hoz]
                      rfl
                  · cases has
                · cases has
              · rename_i hk
                exact absurd rfl hk
            · cases has
          · cases has
      · cases hcl
    | invokespecial i =>
      obtain rfl : len = 3 := by simpa [kv_lok, kv_il] using hlen
      simp only [kv_cl1] at hcl
      split at hcl
      · rename_i hq
        cases hcl
        split at has
        · omega
        · split at has
          · rename_i b rest' hd
            split at has
            · rename_i h8
              split at has
              · omega
              · cases has
                have hst := kv_ml_k _ (kv_ml_s hq)
                have hlk := kv_ml_w _ (kv_ml_s hq)
                dsimp only at hst hlk
                rw [kv_kd, hem] at hst
                have h0 := hst.2.2.1 rfl
                rw [h0] at ok9
                obtain ⟨w1, w2, w3⟩ := ok9
                refine kv_run_W hS (va_runI (b := ρ b) (As := (st.take (kv_np z)).reverse.map (kv_mv ρ)) hS5 hM (cwI (kv_np z) hts hgood (by rw [kv_ws, hem, w3]) rfl rfl (hts _ (by rw [hem]; exact ok2)) (hts _ (hlk.1 (by decide))) (hts _ (by rw [hem]; exact w1)) (by rw [hem]; exact w2) ⟨by rw [hem]; exact ok5, by rw [hem]; exact ok6, hnp⟩ hR) ⟨kv_blind, hpre⟩ rfl hAs hls (inst b _ hd) (hsum _ h8) hdg ⟨hc, hs⟩) kk
            · cases has
          · cases has
      · rename_i hq
        cases hcl
        split at has
        · omega
        · split at has
          · rename_i b rest' hd
            split at has
            · rename_i h8
              split at has
              · omega
              · cases has
                have hst := kv_ml_k _ (kv_ml_s hq)
                dsimp only at hst
                rw [kv_kd, hem] at hst
                have h0 := hst.2.2.2 rfl
                rw [h0] at ok9
                obtain ⟨w1, w2, w3⟩ := ok9
                obtain ⟨host, hnest⟩ := heo.2.2.2.1 _ (kv_ml_s hq) rfl
                dsimp only at hnest
                refine kv_run_W hS (va_runIN (b := ρ b) (As := (st.take (kv_np z)).reverse.map (kv_mv ρ)) hS5 hM ⟨va_cnB (kv_np z) hts hgood (by rw [kv_ws, hem, w3]) rfl rfl hnest (hts _ (by rw [hem]; exact ok2)) ⟨by rw [hem]; exact ok5, by rw [hem]; exact ok6, hnp⟩ hR, by rw [hem]; exact w2, hts _ (by rw [hem]; exact w1)⟩ ⟨kv_blind, hpre⟩ rfl hAs hls (inst b _ hd) (hsum _ h8) hdg ⟨hc, hs⟩) kk
            · cases has
          · cases has
      · cases hcl
    | _ => exact absurd (show (none : Option (Nat × Nat × Nat)) = some _ from hcl) (by simp)
  · cases has
end KVF
