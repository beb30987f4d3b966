/-! THE CLAIM OUT OF ONE WALK OF THE LAW'S BODY. Your part is whole_start (and what it stands on); all else here is the same for every law, but numbers. -/
def R_law : String := "CrossedKnotsLaw"
def lw_P (b : Addr) (xs : List Int32) (args : Array Value) (s : State) : Prop := args = #[.ref b] ∧ s.IntsAt b xs ∧ xs.length ≤ 3072 ∧ (Jvm.Cond.and given_1 narrow_1).before args s = true
def lw_Q (_ : Array Value) (s : State) (o : Outcome) (t : State) : Prop := o = .returned (some (.int 1)) ∧ Framed s o t [] 600000 7302250
def lw_Z (below : List Frame) (a : Array Value) (s : State) : State → Prop := fun t => ∃ o, t.status = .running ∧ Ended t below o ∧ lw_Q a s o t
/-- the law's own end, with 1 on the stack, nothing written that was there before, its room as the claim has it -/
theorem lw_ret {p : Program} {l : Launch} {e : Env} {s : State} {m : MethodId} {below : List Frame} {meth : Method} {c : Code} {b : Nat} (hx : p.tables.exec = Jvm.exec) (hb : c.code = code) (hr : meth.sig.returnType = ret) (hlocks : meth.locks = false) {pc : Nat} {H : Heap} {ls : Array Slot} (hdg : decode code pc = .ok (.ireturn, 1)) : W p l e room_1 s m #[Value.ref b] below meth c H [] 600000 7302250 (lw_Z below #[Value.ref b] s) (F0 m pc ls [.int 1]) := by
  intro T hT X
  obtain ⟨fs, hret, hrun, hended, hW, hframe⟩ := X.leave (v := some (.int 1)) (hlocks := hlocks) (fun h => by rw [hr] at h; cases h)
  have hmeth' : T.vm.method? m = some meth := X.method'
  refine ⟨T.setFrames fs, ?_, .returned (some (.int 1)), hrun, hended, rfl, ⟨_, rfl⟩, hW, hframe⟩
  jvm_step X.here [X.here.top, hx, hb, hdg, hmeth', hr, ret, narrow_b1]
  (try refine ⟨rfl, ?_⟩); (try refine ⟨rfl, ?_⟩)
  first | (intro acts; rw [hret _ acts rfl rfl rfl]) | rw [hret _ _ rfl rfl rfl]
  exact Steps.refl _
/-- what holds at the law's entry: the machine, the code, the tables' words (any of lw_tbl by 'hts w (by decide +kernel)'), the script of L ints xs at the cell b, what the Statement gives of the start (any of its parts by flat_of_before) -/
def lw_At (p : Program) (s : State) (m : MethodId) (meth : Method) (c : Code) (b L : Nat) (xs : Nat → Int32) : Prop :=
  p.tables.exec = Jvm.exec ∧ c.code = code ∧ meth.sig.returnType = ret ∧ c.maxLocals = 4 ∧ s.vm.findClass R_law = some m.cls ∧ (∀ w ∈ lw_tbl, w.before #[Value.ref b] s = true) ∧ va_X b L xs s s.heap ∧ b < s.heap.size ∧ meth.locks = false ∧ (Jvm.Cond.and given_1 narrow_1).before #[Value.ref b] s = true
-- (the rows above are the skeleton's)
def kv_KA : Nat → Int32 := fun j => ([-1, 0, 0, 0, 1, 2, 3] : List Int32).getD j 0
def kv_NA : Nat → Int32 := fun j => ([118, 107, 121, 100, 109, 108] : List Int32).getD j 0
def kv_BO : Nat → Int32 := fun j => ([10, 11, 12, 13, 20, 0, 0, 0, 0, 30, 0, 0, 0, 0, 40, 0, 0, 0, 0, 50, 0, 60, 0, 0, 0, 0, 70, 71] : List Int32).getD j 0
/-- what never changes: the script, the three static rows -/
def kv_E0 (L : Nat) (xs : Nat → Int32) : kv_V := fun a => if a = 1000 then some (0, L, xs) else if a = 1001 then some (0, 7, kv_KA) else if a = 1002 then some (1, 6, kv_NA) else if a = 1003 then some (0, 28, kv_BO) else none
abbrev kv_G : Jvm.Cond := Jvm.Cond.and given_1 narrow_1
abbrev kv_tm (t : Nat) : Jvm.Term := .static (kv_sn t).1 (kv_sn t).2.1 (kv_sn t).2.2
theorem kv_stat {args : Array Value} {s : State} {tm : Jvm.Term} {ty : FieldType} {N : Nat} {f : Nat → Int32} {A : Nat → Prop} (hgv : kv_G.before args s = true) (h1 : Jvm.Cond.arrayOf tm ty ∈ flatC kv_G) (h2 : Jvm.Cond.eq (.length tm) (.int (Int32.ofNat N)) ∈ flatC kv_G) (h3 : ∀ j, j < N → Jvm.Cond.eq (.elem tm (.int (Int32.ofNat j))) (.int (f j)) ∈ flatC kv_G) (hN : N < 2 ^ 31) (hA : ∀ a : Nat, a < s.heap.size → ¬ A a) : ∃ t : Nat, tm.eval args s none [] s = some (.ref t) ∧ va_T ty t N (fun j => .int (f j)) A s s.heap :=
  va_Tof hN (flat_of_before _ hgv _ h1) (va_eqt (flat_of_before _ hgv _ h2)) (fun j hj => va_eqt (flat_of_before _ hgv _ (h3 j hj))) hA
set_option maxRecDepth 100000 in
theorem kv_s1a : Jvm.Cond.arrayOf (kv_tm 1) .int ∈ flatC kv_G ∧ Jvm.Cond.eq (.length (kv_tm 1)) (.int (Int32.ofNat 7)) ∈ flatC kv_G := by decide +kernel
set_option maxRecDepth 100000 in
theorem kv_s1b : ∀ j, j < 7 → Jvm.Cond.eq (.elem (kv_tm 1) (.int (Int32.ofNat j))) (.int (kv_KA j)) ∈ flatC kv_G := by decide +kernel
set_option maxRecDepth 100000 in
theorem kv_s2a : Jvm.Cond.arrayOf (kv_tm 2) .char ∈ flatC kv_G ∧ Jvm.Cond.eq (.length (kv_tm 2)) (.int (Int32.ofNat 6)) ∈ flatC kv_G := by decide +kernel
set_option maxRecDepth 100000 in
theorem kv_s2b : ∀ j, j < 6 → Jvm.Cond.eq (.elem (kv_tm 2) (.int (Int32.ofNat j))) (.int (kv_NA j)) ∈ flatC kv_G := by decide +kernel
set_option maxRecDepth 100000 in
theorem kv_s3a : Jvm.Cond.arrayOf (kv_tm 3) .int ∈ flatC kv_G ∧ Jvm.Cond.eq (.length (kv_tm 3)) (.int (Int32.ofNat 28)) ∈ flatC kv_G := by decide +kernel
set_option maxRecDepth 100000 in
theorem kv_s3b : ∀ j, j < 28 → Jvm.Cond.eq (.elem (kv_tm 3) (.int (Int32.ofNat j))) (.int (kv_BO j)) ∈ flatC kv_G := by decide +kernel
set_option maxRecDepth 100000 in
theorem kv_slay : ∀ t, t < 4 → 1 ≤ t → Jvm.Cond.laysStatic (kv_sn t).1 (kv_sn t).2.1 (kv_sn t).2.2 ∈ tables_1 ∧ Jvm.Cond.initialized (kv_sn t).1 ∈ tables_1 := by decide +kernel
set_option maxRecDepth 100000 in
theorem kv_nest_ok : kv_ml.all (fun q => q.2.2.1 != 3 || decide (tables_1[q.2.2.2.2]? = some (.methodLinkNest (kv_cn q.1) q.2.1 (kv_m q.2.2.2.1).1 "CrossedKnots"))) = true := by decide +kernel
set_option maxRecDepth 100000 in
theorem kv_inst_ok : ∀ ci, ci < 10 → ((vwCl[ci]?).map (fun r => decide (Jvm.Cond.instantiable r.1 r.2.2 ∈ tables_1))) = some true := by decide +kernel
set_option maxRecDepth 100000 in
theorem kv_over_ok : Jvm.Cond.arrayOver (.object (kv_cn (kv_ec 2))) ∈ tables_1 ∧ Jvm.Cond.arrayOver (.object (kv_cn (kv_ec 3))) ∈ tables_1 := by decide +kernel
theorem kv_arrK {s : State} {args : Array Value} {ty : FieldType} (h : (Jvm.Cond.arrayClass ty).before args s = true) (hp : ty = .int ∨ ty = .long) : ∃ cA : ClassId, ArrOfT s cA ty ∧ va_RA s cA ty := by
  obtain ⟨cA, k, comp, h1, h2, h3⟩ := Cond.arrayClass_spec h
  refine ⟨cA, fun n z => ⟨fun k h => (by cases h), k, h2, comp, h3⟩, ?_⟩
  rcases hp with rfl | rfl
  · exact h1
  · exact h1
theorem kv_arrO {s : State} {args : Array Value} {C : String} (h : (Jvm.Cond.arrayOver (.object C)).before args s = true) : ∃ cA : ClassId, ArrOfT s cA (.object C) ∧ va_RA s cA (.object C) := by
  obtain ⟨comp, cA, k, h1, -, h2, h3, h4⟩ := Cond.arrayOver_spec h
  exact ⟨cA, fun n z => ⟨fun k h => (by cases h), k, h2, comp, h3⟩, k, comp, h2, h3, h1, h4⟩
/-- the claim of the small machine: the law answers 1 -/
def kv_pure (L : Nat) (xs : Nat → Int32) : Prop := ∃ (d n : Nat) (hf : kv_H), d ≤ 1000 ∧ kv_rn (kv_E0 L xs) (kv_ev (kv_E0 L xs) d) kv_nm n 0 (kv_in [.ref 1000] 4) [] [] (some (.int 1)) hf ∧ kv_sz hf ≤ 7302250
set_option maxHeartbeats 4000000 in
set_option maxRecDepth 100000 in
theorem kv_start {p : Program} {e : Env} {s : State} {m : MethodId} {below : List Frame} {meth : Method} {c : Code} (l : Launch) {b L : Nat} {xs : Nat → Int32} (hL : L ≤ 3072) (C0 : lw_At p s m meth c b L xs) (hpure : kv_pure L xs) : W p l e room_1 s m #[Value.ref b] below meth c s.heap [] 0 0 (lw_Z below #[Value.ref b] s) (entryFrame m ([Value.ref b] : List Value).toArray 4) := by
  obtain ⟨hx, hb, hr, hml, hown, hts, hX, hbl, hlocks, hgv⟩ := id C0
  obtain ⟨d, n, hf, hd, hrn, hszf⟩ := hpure
  have htt : ∀ w ∈ tables_1, w.before #[Value.ref b] s = true := fun w hw => hts w (List.mem_append_right _ hw)
  have htb : ∀ w ∈ kv_tb, w.before #[Value.ref b] s = true := fun w hw => hts w (kv_tbl hw)
  have hA : ∀ a : Nat, a < s.heap.size → ¬ (fun q : Nat => s.heap.size ≤ q) a := fun a h => Nat.not_le.mpr h
  obtain ⟨t1, e1, T1⟩ := kv_stat (A := fun q : Nat => s.heap.size ≤ q) hgv kv_s1a.1 kv_s1a.2 kv_s1b (by decide) hA
  obtain ⟨t2, e2, T2⟩ := kv_stat (A := fun q : Nat => s.heap.size ≤ q) hgv kv_s2a.1 kv_s2a.2 kv_s2b (by decide) hA
  obtain ⟨t3, e3, T3⟩ := kv_stat (A := fun q : Nat => s.heap.size ≤ q) hgv kv_s3a.1 kv_s3a.2 kv_s3b (by decide) hA
  have Z1 := va_Zref (A := fun q : Nat => s.heap.size ≤ q) (htt _ (kv_slay 1 (by decide) (by decide)).1) (htt _ (kv_slay 1 (by decide) (by decide)).2) e1 hA
  have Z2 := va_Zref (A := fun q : Nat => s.heap.size ≤ q) (htt _ (kv_slay 2 (by decide) (by decide)).1) (htt _ (kv_slay 2 (by decide) (by decide)).2) e2 hA
  have Z3 := va_Zref (A := fun q : Nat => s.heap.size ≤ q) (htt _ (kv_slay 3 (by decide) (by decide)).1) (htt _ (kv_slay 3 (by decide) (by decide)).2) e3 hA
  obtain ⟨c0, A0, B0⟩ := kv_arrK (htb (.arrayClass .int) (kv_w1_in (by simp [kv_w1]))) (Or.inl rfl)
  obtain ⟨c1, A1, B1⟩ := kv_arrK (htb (.arrayClass .long) (kv_w1_in (by simp [kv_w1]))) (Or.inr rfl)
  obtain ⟨c2, A2, B2⟩ := kv_arrO (htt _ kv_over_ok.1)
  obtain ⟨c3, A3, B3⟩ := kv_arrO (htt _ kv_over_ok.2)
  have hcls : ∀ ci : Nat, ∃ q : ClassId × (Nat → Nat), ∀ r : vw_C, vwCl[ci]? = some r → u_Kn s r.1 r.2.1 r.2.2 q.1 q.2 := by
    intro ci
    by_cases hci : ci < 10
    · have hi := kv_inst_ok ci hci
      obtain ⟨r, hr1⟩ := kv_cl_lt hci
      rw [hr1] at hi
      have hi2 : Jvm.Cond.instantiable r.1 r.2.2 ∈ tables_1 := of_decide_eq_true (Option.some.inj hi)
      obtain ⟨cC, iS, hk⟩ := u_known htb (kv_cok_all ci r hr1).2.1 (htt _ hi2)
      refine ⟨(cC, iS), fun r2 h2 => ?_⟩
      cases hr1.symm.trans h2
      exact hk
    · refine ⟨(0, fun _ => 0), fun r h => ?_⟩
      rw [List.getElem?_eq_none (show vwCl.length ≤ ci from Nat.not_lt.mp hci)] at h
      cases h
  obtain ⟨f, hfc⟩ := Classical.axiomOfChoice hcls
  have hK : va_K (fun k => (f k).1, fun k => (f k).2) vwCl (kv_tys (fun t => if t = 0 then c0 else if t = 1 then c1 else if t = 2 then c2 else c3)) s := by
    refine ⟨fun k q hq => hfc k q hq, fun k q hq => ?_⟩
    match k, hq with
    | 0, hq => cases hq; exact ⟨A0, B0⟩
    | 1, hq => cases hq; exact ⟨A1, B1⟩
    | 2, hq => cases hq; exact ⟨A2, B2⟩
    | 3, hq => cases hq; exact ⟨A3, B3⟩
    | k + 4, hq => simp [kv_tys] at hq
  have hXT : va_T .int b L (fun j => .int (xs j)) (fun q : Nat => s.heap.size ≤ q) s s.heap := by
    obtain ⟨scr, x1, x2, x3, x4, x5⟩ := hX
    exact ⟨scr, x1, x2, x3, by omega, by rw [x4] <;> rfl, x5, hA b hbl⟩
  have heo : kv_eo (kv_E0 L xs) (fun k => (f k).1, fun k => (f k).2) (fun k => if k < 1000 then s.heap.size + k else if k = 1000 then b else if k = 1001 then t1 else if k = 1002 then t2 else t3) (fun t => if t = 0 then c0 else if t = 1 then c1 else if t = 2 then c2 else c3) s.heap.size s := by
    refine ⟨hK, ?_, ?_, ?_, ?_⟩
    · intro a t n g hE
      unfold kv_E0 at hE
      split at hE
      · rename_i ha; subst ha; cases hE; exact ⟨Or.inl rfl, hXT⟩
      · split at hE
        · rename_i ha; subst ha; cases hE; exact ⟨Or.inl rfl, T1⟩
        · split at hE
          · rename_i ha; subst ha; cases hE; exact ⟨Or.inr rfl, T2⟩
          · split at hE
            · rename_i ha; subst ha; cases hE; exact ⟨Or.inl rfl, T3⟩
            · cases hE
    · intro t ht
      rcases (show t = 1 ∨ t = 2 ∨ t = 3 by omega) with rfl | rfl | rfl
      · exact Z1
      · exact Z2
      · exact Z3
    · intro q hq h3
      have h1 := List.all_eq_true.mp kv_nest_ok q hq
      simp only [h3, Bool.or_eq_true, bne_iff_ne, ne_eq, not_true_eq_false, false_or, decide_eq_true_eq] at h1
      exact ⟨_, va_Nw.of rfl (htt _ (List.mem_of_getElem? h1))⟩
    · intro t ht
      rcases ht with rfl | rfl
      · exact va_AO.of (htt _ kv_over_ok.1)
      · exact va_AO.of (htt _ kv_over_ok.2)
  have hρ : ∀ k, k < 1000 → (fun k => if k < 1000 then s.heap.size + k else if k = 1000 then b else if k = 1001 then t1 else if k = 1002 then t2 else t3) k = s.heap.size + k := fun k hk => if_pos hk
  have hlv := lv_entry ([.ref b]) (n := 4) (Nat.le_of_ble_eq_true rfl)
  rw [lg_entry_eq]
  generalize (lg_sl ([.ref b]) ++ List.replicate (4 - (lg_sl ([.ref b])).length) Slot.unset).toArray = ls at hlv ⊢
  have hmono := kv_rn_mono (kv_ev_mono d) n _ _ _ _ _ _ hrn
  have h1000 : hf.length ≤ 1000 := hmono.2.2 (Nat.zero_le _)
  have hrl : room_1.frames = 2048 ∧ room_1.locals = 84000 ∧ room_1.cells = 600000 ∧ room_1.slots = 7302250 := ⟨rfl, rfl, rfl, rfl⟩
  have hnd : kv_nd (kv_in [.ref 1000] 4) := fun i v hv hc => kv_ar_nd _ i v (kv_in_get hv) hc
  refine kv_rn_W (y := kv_nm) (d := d) (hs := []) (hf := hf) (r := some (.int 1)) hx hb hml hown htb heo hρ (by rw [hrl.1]; omega) (by rw [hrl.2.1]; omega) (fun h => absurd h (by decide)) km_d_L_law (kv_ev_met l _ _ _ _ _ hρ d) (by rw [hrl.2.2.1]; simp; omega) (by rw [hrl.2.2.2]; exact Nat.le_trans hszf (Nat.le_add_left _ _)) ?_ n 0 _ [] [] s.heap [] 0 0 ls hrn (Nat.zero_le _) (fun k q h => by simp [kv_w] at h) rfl va_S.rf rfl rfl (kv_in_has (as := [.ref 1000]) hlv) hnd rfl
  intro H locs cells slots pc ls ins len st hdg hlen hre hP hsz hS hce hsl
  cases ins with
  | ireturn =>
    obtain rfl : len = 1 := by simpa [kv_lok, kv_il] using hlen
    simp only [kv_re] at hre
    split at hre
    · split at hre
      · cases hre
        refine va_forget (fun q hq => hS.2.2 q hq) ?_
        refine W.widen (k := 600000) (n := 7302250) (by simp at hce; omega) (by have : kv_sz [] = 0 := rfl; omega) ?_
        exact lw_ret hx hb hr hlocks hdg
      · cases hre
    · cases hre
  | lreturn =>
    simp only [kv_re] at hre
    split at hre
    · cases hre
    · cases hre
  | areturn =>
    simp only [kv_re] at hre
    split at hre
    · split at hre
      · rename_i hfit
        cases hre
        exact absurd hfit.1 (by decide)
      · cases hre
    · cases hre
  | return_ =>
    simp only [kv_re] at hre
    split at hre
    · cases hre
    · cases hre
  | _ => exact absurd (show (none : Option (Option Value)) = some _ from hre) (by simp)
