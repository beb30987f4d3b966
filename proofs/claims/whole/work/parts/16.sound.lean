/-! THE REAL MACHINE FOLLOWS THE SMALL ONE -/
section KVS
variable {p : Program} {l : Launch} {e : Env} {R : Room} {s : State} {m : MethodId} {args : Array Value} {below : List Frame} {meth : Method} {c : Code} {Q : State → Prop}
variable {cc : ByteArray} {E : kv_V} {D : va_G} {ρ : Nat → Nat} {cA : Nat → ClassId} {B o nL : Nat}
set_option maxHeartbeats 2000000 in
theorem kv_rn_W {y d : Nat} (hx : p.tables.exec = Jvm.exec) (hb : c.code = cc) (hml : c.maxLocals = nL) (hown : s.vm.findClass (kv_cn (kv_o y)) = some m.cls) (hts : ∀ w ∈ kv_tb, w.before args s = true) (heo : kv_eo E D ρ cA B s) (hρ : ∀ k, k < 1000 → ρ k = B + k) (hRf : d + 1 ≤ R.frames) (hRl : 60 * d + 60 ≤ R.locals) (hin : kv_kd y = 2 → meth.name = "<init>")
    (hdok : ∀ q ∈ kv_cd y, decode cc q.1 = .ok q.2) (hM : ∀ z as h v h1, kv_ev E d z as h v h1 → h.length ≤ 1000 → z < kv_nm ∧ kv_mt1 l E D ρ cA B d z as h v h1)
    {hs hf : kv_H} {r : Option Value} (hRc : hf.length ≤ hs.length + R.cells) (hRs : kv_sz hf ≤ kv_sz hs + R.slots)
    (hend : ∀ (H : Heap) (locs : List Loc) (cells slots pc : Nat) (ls : Array Slot) (ins : Instr) (len : Nat) (st : List Value), decode cc pc = .ok (ins, len) → kv_lok (ins, len) = true → kv_re (kv_rt y) ins st = some r → va_P D vwCl (kv_w ρ cA hf) H → H.size = B + hf.length → va_S (fun q => B ≤ q) s.heap H locs → cells + hs.length = hf.length → slots + kv_sz hs = kv_sz hf → W p l e R s m args below meth c H locs cells slots Q (F0 m pc ls (kv_ms ρ st))) :
    ∀ (n pc : Nat) (L : kv_L) (st : List Value) (h : kv_H) (H : Heap) (locs : List Loc) (cells slots : Nat) (ls : Array Slot), kv_rn E (kv_ev E d) y n pc L st h r hf → h.length ≤ 1000 → va_P D vwCl (kv_w ρ cA h) H → H.size = B + h.length → va_S (fun q => B ≤ q) s.heap H locs → cells + hs.length = h.length → slots + kv_sz hs = kv_sz h → lv_has ls nL (kv_al ρ L) → kv_nd L → L.length = nL → W p l e R s m args below meth c H locs cells slots Q (F0 m pc ls (kv_ms ρ st)) := by
  intro n
  induction n with
  | zero => intro pc L st h H locs cells slots ls hr; exact absurd hr (by simp [kv_rn])
  | succ n ih =>
    intro pc L st h H locs cells slots ls hr hl hP hsz hS hce hsl hlv hnd hLl
    obtain ⟨mo1, mo2, -⟩ := kv_rn_mono (kv_ev_mono d) (n + 1) _ _ _ _ _ _ hr
    simp only [kv_rn] at hr
    split at hr
    · exact absurd hr (by simp)
    · rename_i ins len hat
      have hdg : decode cc pc = .ok (ins, len) := hdok (pc, (ins, len)) (kv_at_s hat)
      have hlen : kv_lok (ins, len) = true := kv_at_len hat
      split at hr
      · rename_i k z pp hcl
        split at hr
        · rename_i as rest has
          obtain ⟨v, h1, hc, hr⟩ := hr
          obtain ⟨hz, hMz⟩ := hM z as h v h1 hc hl
          obtain ⟨a1, a2, a3⟩ := kv_ev_mono d z as h v h1 hc
          obtain ⟨b1, b2, b3⟩ := kv_rn_mono (kv_ev_mono d) n _ _ _ _ _ _ hr
          exact kv_call_W hx hb hml hown hts heo hRf hRl hP hsz hS hlv.1 hcl has hz hMz hdg hlen (by omega) (by omega) (fun H' locs' k1 k2 k3 => ih _ _ _ _ _ _ _ _ _ hr (a3 hl) k1 k2 k3 (by omega) (by omega) hlv hnd hLl)
        · exact absurd hr (by simp)
      · split at hr
        · rename_i v hre
          obtain ⟨rfl, rfl⟩ := hr
          exact hend H locs cells slots pc ls ins len st hdg hlen hre hP hsz hS hce hsl
        · split at hr
          · rename_i pc' L' st' hop
            exact kv_op_W hx hb hml hown hts heo (by omega) (by omega) (by omega) (by omega) hP hS hlv hnd hLl hop hdg hlen (fun ls' k1 k2 k3 => ih _ _ _ _ _ _ _ _ _ hr hl hP hsz hS hce hsl k1 k2 k3)
          · split at hr
            · rename_i pc' st' h' hhp
              obtain ⟨a1, a2, a3⟩ := kv_hp_mono hhp
              obtain ⟨b1, b2, b3⟩ := kv_rn_mono (kv_ev_mono d) n _ _ _ _ _ _ hr
              exact kv_hp_W hx hb hml hown hts heo (by omega) (by omega) hρ hl hP hsz hS hin hlv.1 hhp hdg hlen (by omega) (by omega) (fun H' locs' cells' slots' k1 k2 k3 k4 k5 => ih _ _ _ _ _ _ _ _ _ hr (a3 hl) k1 k2 k3 (by omega) (by omega) hlv hnd hLl)
            · exact absurd hr (by simp)
theorem kv_fit_narrow {ty : FieldType} {v : Int32} (h : kv_fit ty (.int v) = true) : narrow ty (.int v) = .int v := (kv_mv_narrow (fun k => k) h).1
theorem kv_fit_ref {ty : FieldType} {v : Value} (h1 : kv_isA v = true) (h : kv_fit ty v = true) : (∃ n, ty = .object n) ∨ ∃ t, ty = .array t := by
  cases ty <;> cases v <;> first | exact Or.inl ⟨_, rfl⟩ | exact Or.inr ⟨_, rfl⟩ | exact absurd (show false = true from h1) Bool.false_ne_true | exact absurd (show false = true from h) Bool.false_ne_true
theorem kv_ret_W {H : Heap} {locs : List Loc} {cells slots : Nat} {rt : Option FieldType} (hx : p.tables.exec = Jvm.exec) (hb : c.code = cc) (hr : meth.sig.returnType = rt) (hlocks : meth.locks = false) {ins : Instr} {len pc : Nat} {st : List Value} {r : Option Value} {hf : kv_H} {ls : Array Slot} (hdg : decode cc pc = .ok (ins, len)) (hlen : kv_lok (ins, len) = true) (hre : kv_re rt ins st = some r) (hP : va_P D vwCl (kv_w ρ cA hf) H) (hsz : H.size = B + hf.length) (hS : va_S (fun q => B ≤ q) s.heap H locs) : W p l e R s m args below meth c H locs cells slots (MQ below (kv_qc D ρ cA B r hf) args s cells slots (fun q => B ≤ q)) (F0 m pc ls (kv_ms ρ st)) := by
  have hq : ∀ t : State, t.heap = H → s.WarmedH t.vm → kv_qc D ρ cA B r hf args s (.returned (r.map (kv_mv ρ))) t := fun t ht _ => ⟨rfl, by rw [ht]; exact hP, by rw [ht]; exact hsz, hS.F ht⟩
  cases ins with
  | ireturn =>
    obtain rfl : len = 1 := by simpa [kv_lok, kv_il] using hlen
    simp only [kv_re] at hre
    split at hre
    · split at hre
      · rename_i hfit
        cases hre
        exact W.zret hx hb hr (kv_fit_narrow hfit) hq hS.2.2 hdg hlocks
      · cases hre
    · cases hre
  | lreturn =>
    obtain rfl : len = 1 := by simpa [kv_lok, kv_il] using hlen
    simp only [kv_re] at hre
    split at hre
    · cases hre
      exact W.lret hx hb hr hq hS.2.2 hdg hlocks
    · cases hre
  | areturn =>
    obtain rfl : len = 1 := by simpa [kv_lok, kv_il] using hlen
    simp only [kv_re] at hre
    split at hre
    · split at hre
      · rename_i hfit
        cases hre
        refine W.aret hx hb hr (kv_fit_ref hfit.1 hfit.2) ?_ hq hS.2.2 hdg hlocks
        rcases kv_isA_s hfit.1 with rfl | ⟨x, rfl⟩
        · exact Or.inl rfl
        · exact Or.inr ⟨_, rfl⟩
      · cases hre
    · cases hre
  | return_ =>
    obtain rfl : len = 1 := by simpa [kv_lok, kv_il] using hlen
    simp only [kv_re] at hre
    split at hre
    · cases hre
      exact W.vret hx hb hr hq hS.2.2 hdg hlocks
    · cases hre
  | _ => exact absurd (show (none : Option (Option Value)) = some _ from hre) (by simp)
end KVS
set_option maxHeartbeats 2000000 in
/-- what a method does in the small machine it does in the real one -/
theorem kv_ev_met (l : Launch) (E : kv_V) (D : va_G) (ρ : Nat → Nat) (cA : Nat → ClassId) (B : Nat) (hρ : ∀ k, k < 1000 → ρ k = B + k) : ∀ (d y : Nat) (as : List Value) (h : kv_H) (r : Option Value) (hf : kv_H), kv_ev E d y as h r hf → h.length ≤ 1000 → y < kv_nm ∧ kv_mt1 l E D ρ cA B d y as h r hf := by
  intro d
  induction d with
  | zero => intro y as h r hf hr; exact absurd hr (by simp [kv_ev])
  | succ d ih =>
    intro y as h r hf hr hl
    obtain ⟨mo1, mo2, -⟩ := kv_ev_mono _ _ _ _ _ _ hr
    simp only [kv_ev] at hr
    obtain ⟨hy, har, n, hr⟩ := hr
    obtain ⟨em, -, hem, ⟨⟨ok1, ok2⟩, ⟨ok3, ok4, ok5, ok6, ok7, ok8⟩, ok9⟩, hdk⟩ := kv_m_lt hy
    refine ⟨hy, ?_⟩
    unfold kv_mt1
    refine Met.ofW (cc := (kv_m y).2.1) (maxL := kv_maxL y) (ret := kv_rt y) (by rw [hem]; exact ok4) rfl ?_
    intro p e s m args below meth c s₁ Bd hml hv
    obtain ⟨rfl, hP, hsz, heo⟩ := hv
    have hts : ∀ w ∈ kv_tb, w.before (as.map (kv_mv ρ)).toArray s = true := fun w hw => atoms_spec (ws := kv_ws y) Bd.pre w (List.mem_cons_of_mem _ hw)
    have hown : s.vm.findClass (kv_cn (kv_o y)) = some m.cls := by
      have h1 := findClass_of_methodNamed Bd.named
      rw [kv_o, hem, ← ok3, ← hem]
      exact h1
    have hin : kv_kd y = 2 → meth.name = "<init>" := by
      intro hk
      rw [kv_kd, hem] at hk
      rw [hk] at ok9
      rw [(name_of_methodNamed Bd.named Bd.method).1, hem]
      exact ok9.2.1
    have hlv := lv_entry (as.map (kv_mv ρ)) (n := kv_maxL y) (by rw [kv_ar_len]; exact har)
    rw [lg_entry_eq]
    generalize (lg_sl (as.map (kv_mv ρ)) ++ List.replicate (kv_maxL y - (lg_sl (as.map (kv_mv ρ))).length) Slot.unset).toArray = ls at hlv ⊢
    have hnd : kv_nd (kv_in as (kv_maxL y)) := fun i v hv hc => kv_ar_nd as i v (kv_in_get hv) hc
    refine kv_rn_W (d := d) (hs := h) (hf := hf) (r := r) Bd.exec Bd.bytes hml hown hts heo hρ (Nat.le_refl _) (by show 60 * d + 60 ≤ 60 * (d + 1); omega) hin (fun q hq => by rw [hem]; exact hdk q (by rw [kv_cd, hem] at hq; exact hq)) ih (by show hf.length ≤ h.length + (hf.length - h.length); omega) (by show kv_sz hf ≤ kv_sz h + (kv_sz hf - kv_sz h); omega) ?_ n 0 _ [] h s.heap [] 0 0 ls hr hl hP hsz va_S.rf (by omega) (by omega) (kv_in_has hlv) hnd (kv_in_len har)
    intro H locs cells slots pc ls ins len st hdg hlen hre hP hsz hS hce hsl
    obtain rfl : cells = hf.length - h.length := by omega
    obtain rfl : slots = kv_sz hf - kv_sz h := by omega
    exact kv_ret_W Bd.exec Bd.bytes Bd.returns Bd.notSynchronized hdg hlen hre hP hsz hS
