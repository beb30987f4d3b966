/-! A SMALL MACHINE: heap = list of cells by handle; the real machine is shown to follow it (part 06) -/
abbrev kv_E : Type := (Nat × vp_A) ⊕ (Nat × List Value)
abbrev kv_H : Type := List kv_E
abbrev kv_L : Type := List (Option Value)
abbrev kv_V : Type := Nat → Option (Nat × Nat × (Nat → Int32))
def kv_M0 : kv_M := (⟨"", "", ""⟩, ⟨#[]⟩, 0, none, 0, 99, 9, [])
noncomputable def kv_m (y : Nat) : kv_M := (kv_mt[y]?).getD kv_M0
noncomputable def kv_maxL (y : Nat) : Nat := (kv_m y).2.2.1
noncomputable def kv_rt (y : Nat) : Option FieldType := (kv_m y).2.2.2.1
noncomputable def kv_np (y : Nat) : Nat := (kv_m y).2.2.2.2.1
noncomputable def kv_o (y : Nat) : Nat := (kv_m y).2.2.2.2.2.1
noncomputable def kv_kd (y : Nat) : Nat := (kv_m y).2.2.2.2.2.2.1
noncomputable def kv_cd (y : Nat) : List (Nat × Instr × Nat) := (kv_m y).2.2.2.2.2.2.2
noncomputable def kv_at (y pc : Nat) : Option (Instr × Nat) := ((kv_cd y).find? (fun q => q.1 == pc)).map (fun q => q.2)
def kv_lk {α : Type} (l : List (Nat × Nat × α)) (o i : Nat) : Option α := (l.find? (fun q => q.1 == o && q.2.1 == i)).map (fun q => q.2.2)
def kv_get (L : kv_L) (i : Nat) : Option Value := (L[i]?).join
def kv_kill (L : kv_L) (i : Nat) : kv_L := match i with
  | 0 => L
  | j + 1 => match L[j]? with
    | some (some (.long _)) => L.set j none
    | _ => L
def kv_st1 (L : kv_L) (i : Nat) (v : Value) : kv_L := (kv_kill L i).set i (some v)
def kv_st2 (L : kv_L) (i : Nat) (v : Value) : kv_L := ((kv_kill L i).set i (some v)).set (i + 1) none
def kv_ar : List Value → kv_L
  | [] => []
  | v :: r => match v with
    | .long x => some (.long x) :: none :: kv_ar r
    | .double _ => none :: none :: kv_ar r
    | w => some w :: kv_ar r
def kv_in (as : List Value) (n : Nat) : kv_L := kv_ar as ++ List.replicate (n - (kv_ar as).length) none
def kv_j (pc : Nat) (off : Int) : Option Nat := if 0 ≤ (pc : Int) + off then some ((pc : Int) + off).toNat else none
def kv_ic (c : ClassFile.Cond) (x y : Int32) : Bool := match c with
  | .eq => decide (x = y)
  | .ne => !decide (x = y)
  | .lt => decide (x < y)
  | .ge => decide (y ≤ x)
  | .gt => decide (y < x)
  | .le => decide (x ≤ y)
def kv_fit : FieldType → Value → Bool
  | .int, .int _ => true
  | .long, .long _ => true
  | .boolean, .int v => v == 0 || v == 1
  | .object _, .null => true
  | .object _, .ref _ => true
  | .array _, .null => true
  | .array _, .ref _ => true
  | _, _ => false
/-- pushes nothing, reads a local of one kind -/
def kv_isI : Value → Bool
  | .int _ => true
  | _ => false
def kv_isL : Value → Bool
  | .long _ => true
  | _ => false
def kv_isA : Value → Bool
  | .ref _ => true
  | .null => true
  | _ => false
def kv_ld (L : kv_L) (i : Nat) (k : Value → Bool) : Option Value := match kv_get L i with
  | some v => if k v then some v else none
  | none => none
abbrev kv_R : Type := Nat × kv_L × List Value
def kv_psh (pc n : Nat) (L : kv_L) (st : List Value) (v : Option Value) : Option kv_R := match v with
  | some w => some (pc + n, L, w :: st)
  | none => none
def kv_sw (pc : Nat) (L : kv_L) (st : List Value) (t : Option Nat) : Option kv_R := match t with
  | some q => some (q, L, st)
  | none => none
/-- an int array's element: of the heap, or of what never changes (ty 0 int, 1 char) -/
def kv_rd (E : kv_V) (h : kv_H) (ty a : Nat) (i : Int32) : Option Value := match h[a]? with
  | some (.inl (0, n, .inl f)) => if i < 0 ∨ n ≤ i.toNatClampNeg then none else if ty = 0 then some (.int (f i.toNatClampNeg)) else none
  | some _ => none
  | none => match E a with
    | some (t, n, f) => if i < 0 ∨ n ≤ i.toNatClampNeg then none else if t = ty then some (.int (f i.toNatClampNeg)) else none
    | none => none
def kv_rdl (h : kv_H) (a : Nat) (i : Int32) : Option Value := match h[a]? with
  | some (.inl (1, n, .inr (.inl f))) => if i < 0 ∨ n ≤ i.toNatClampNeg then none else some (.long (f i.toNatClampNeg))
  | _ => none
def kv_rda (h : kv_H) (a : Nat) (i : Int32) : Option Value := match h[a]? with
  | some (.inl (t, n, .inr (.inr (.inr (.inr f))))) => if i < 0 ∨ n ≤ i.toNatClampNeg then none else if t = 2 ∨ t = 3 then some (va_rf (f i.toNatClampNeg)) else none
  | _ => none
def kv_len (E : kv_V) (h : kv_H) (a : Nat) : Option Value := match h[a]? with
  | some (.inl (t, x)) => if t < 4 then some (.int (Int32.ofNat x.1)) else none
  | some _ => none
  | none => match E a with
    | some (_, n, _) => some (.int (Int32.ofNat n))
    | none => none
def kv_fld (h : kv_H) (a : Nat) (q : Option (Nat × Nat × Nat)) : Option Value := match q with
  | some (ci, k, _) => match h[a]? with
    | some (.inr (cj, fs)) => if cj = ci then fs[k]? else none
    | _ => none
  | none => none
/-- one instruction that leaves the heap -/
def kv_op (E : kv_V) (o : Nat) (ins : Instr) (len pc : Nat) (L : kv_L) (st : List Value) (h : kv_H) : Option kv_R := match ins with
  | .iconst n => some (pc + 1, L, .int (Int32.ofInt n) :: st)
  | .bipush n => some (pc + 2, L, .int (Int8.ofInt n).toInt32 :: st)
  | .sipush n => some (pc + 3, L, .int (Int16.ofInt n).toInt32 :: st)
  | .lconst n => some (pc + 1, L, .long (Int64.ofNat (n : Nat)) :: st)
  | .aconst_null => some (pc + 1, L, .null :: st)
  | .ldc i => kv_psh pc 2 L st ((kv_lk kv_ct o i).map (fun q => .int q.1))
  | .ldc_w i => kv_psh pc 3 L st ((kv_lk kv_ct o i).map (fun q => .int q.1))
  | .ldc2_w i => kv_psh pc 3 L st ((kv_lk kv_cl o i).map (fun q => .long q.1))
  | .iload_n n => kv_psh pc 1 L st (kv_ld L n kv_isI)
  | .iload n => kv_psh pc 2 L st (kv_ld L n kv_isI)
  | .lload_n n => kv_psh pc 1 L st (kv_ld L n kv_isL)
  | .lload n => kv_psh pc 2 L st (kv_ld L n kv_isL)
  | .aload_n n => kv_psh pc 1 L st (kv_ld L n kv_isA)
  | .aload n => kv_psh pc 2 L st (kv_ld L n kv_isA)
  | .istore_n n => match st with
    | .int x :: r => if (n : Nat) < L.length then some (pc + 1, kv_st1 L n (.int x), r) else none
    | _ => none
  | .istore n => match st with
    | .int x :: r => if n < L.length then some (pc + 2, kv_st1 L n (.int x), r) else none
    | _ => none
  | .lstore_n n => match st with
    | .long x :: r => if (n : Nat) + 1 < L.length then some (pc + 1, kv_st2 L n (.long x), r) else none
    | _ => none
  | .lstore n => match st with
    | .long x :: r => if n + 1 < L.length then some (pc + 2, kv_st2 L n (.long x), r) else none
    | _ => none
  | .astore_n n => match st with
    | .ref x :: r => if (n : Nat) < L.length then some (pc + 1, kv_st1 L n (.ref x), r) else none
    | .null :: r => if (n : Nat) < L.length then some (pc + 1, kv_st1 L n .null, r) else none
    | _ => none
  | .astore n => match st with
    | .ref x :: r => if n < L.length then some (pc + 2, kv_st1 L n (.ref x), r) else none
    | .null :: r => if n < L.length then some (pc + 2, kv_st1 L n .null, r) else none
    | _ => none
  | .iinc i n => match kv_get L i with
    | some (.int x) => if i < L.length then some (pc + 3, kv_st1 L i (.int (x + Int32.ofInt n)), st) else none
    | _ => none
  | .iadd => match st with
    | .int y :: .int x :: r => some (pc + 1, L, .int (x + y) :: r)
    | _ => none
  | .isub => match st with
    | .int y :: .int x :: r => some (pc + 1, L, .int (x - y) :: r)
    | _ => none
  | .imul => match st with
    | .int y :: .int x :: r => some (pc + 1, L, .int (x * y) :: r)
    | _ => none
  | .iand => match st with
    | .int y :: .int x :: r => some (pc + 1, L, .int (x &&& y) :: r)
    | _ => none
  | .ior => match st with
    | .int y :: .int x :: r => some (pc + 1, L, .int (x ||| y) :: r)
    | _ => none
  | .ixor => match st with
    | .int y :: .int x :: r => some (pc + 1, L, .int (x ^^^ y) :: r)
    | _ => none
  | .idiv => match st with
    | .int y :: .int x :: r => if y = 0 then none else some (pc + 1, L, .int (x / y) :: r)
    | _ => none
  | .irem => match st with
    | .int y :: .int x :: r => if y = 0 then none else some (pc + 1, L, .int (x % y) :: r)
    | _ => none
  | .ineg => match st with
    | .int x :: r => some (pc + 1, L, .int (-x) :: r)
    | _ => none
  | .ishl => match st with
    | .int y :: .int x :: r => some (pc + 1, L, .int (x <<< (y &&& 31)) :: r)
    | _ => none
  | .ishr => match st with
    | .int y :: .int x :: r => some (pc + 1, L, .int (x >>> (y &&& 31)) :: r)
    | _ => none
  | .iushr => match st with
    | .int y :: .int x :: r => some (pc + 1, L, .int (x.toUInt32 >>> (y.toUInt32 &&& Int32.toUInt32 31)).toInt32 :: r)
    | _ => none
  | .land => match st with
    | .long y :: .long x :: r => some (pc + 1, L, .long (x &&& y) :: r)
    | _ => none
  | .lor => match st with
    | .long y :: .long x :: r => some (pc + 1, L, .long (x ||| y) :: r)
    | _ => none
  | .lshl => match st with
    | .int y :: .long x :: r => some (pc + 1, L, .long (x <<< (y.toInt64 &&& 63)) :: r)
    | _ => none
  | .lshr => match st with
    | .int y :: .long x :: r => some (pc + 1, L, .long (x >>> (y.toInt64 &&& 63)) :: r)
    | _ => none
  | .lushr => match st with
    | .int y :: .long x :: r => some (pc + 1, L, .long (x.toUInt64 >>> (y.toInt64.toUInt64 &&& Int64.toUInt64 63)).toInt64 :: r)
    | _ => none
  | .lcmp => match st with
    | .long y :: .long x :: r => some (pc + 1, L, .int (lg_cmp x y) :: r)
    | _ => none
  | .i2l => match st with
    | .int x :: r => some (pc + 1, L, .long x.toInt64 :: r)
    | _ => none
  | .l2i => match st with
    | .long x :: r => some (pc + 1, L, .int x.toInt32 :: r)
    | _ => none
  | .i2b => match st with
    | .int x :: r => some (pc + 1, L, .int x.toInt8.toInt32 :: r)
    | _ => none
  | .i2s => match st with
    | .int x :: r => some (pc + 1, L, .int x.toInt16.toInt32 :: r)
    | _ => none
  | .dup => match st with
    | .int x :: r => some (pc + 1, L, .int x :: .int x :: r)
    | .ref x :: r => some (pc + 1, L, .ref x :: .ref x :: r)
    | _ => none
  | .dup2 => match st with
    | .int x :: .ref a :: r => some (pc + 1, L, .int x :: .ref a :: .int x :: .ref a :: r)
    | _ => none
  | .goto off => kv_sw pc L st (kv_j pc off)
  | .ifCond c off => match st with
    | .int x :: r => kv_sw pc L r ((kv_j pc off).map (fun t => if kv_ic c x 0 then t else pc + 3))
    | _ => none
  | .if_icmp c off => match st with
    | .int y :: .int x :: r => kv_sw pc L r ((kv_j pc off).map (fun t => if kv_ic c x y then t else pc + 3))
    | _ => none
  | .ifnull off => match st with
    | .null :: r => kv_sw pc L r (kv_j pc off)
    | .ref _ :: r => some (pc + 3, L, r)
    | _ => none
  | .ifnonnull off => match st with
    | .null :: r => some (pc + 3, L, r)
    | .ref _ :: r => kv_sw pc L r (kv_j pc off)
    | _ => none
  | .tableswitch d lo hi offs => match st with
    | .int x :: r => if x.toInt < lo ∨ hi < x.toInt then kv_sw pc L r (kv_j pc d) else kv_sw pc L r ((offs[(x.toInt - lo).toNat]?).bind (kv_j pc))
    | _ => none
  | .lookupswitch d ps => match st with
    | .int x :: r => if (ps.toList.zip (ps.toList.drop 1)).all (fun (a, next) => a.1 < next.1) = true then kv_sw pc L r (kv_j pc (Op.lookupswitch.offset ps.toList d x.toInt)) else none
    | _ => none
  | .iaload => match st with
    | .int i :: .ref a :: r => kv_psh pc 1 L r (kv_rd E h 0 a i)
    | _ => none
  | .caload => match st with
    | .int i :: .ref a :: r => kv_psh pc 1 L r (kv_rd E h 1 a i)
    | _ => none
  | .laload => match st with
    | .int i :: .ref a :: r => kv_psh pc 1 L r (kv_rdl h a i)
    | _ => none
  | .aaload => match st with
    | .int i :: .ref a :: r => kv_psh pc 1 L r (kv_rda h a i)
    | _ => none
  | .arraylength => match st with
    | .ref a :: r => kv_psh pc 1 L r (kv_len E h a)
    | _ => none
  | .getfield i => match st with
    | .ref a :: r => kv_psh pc 3 L r (kv_fld h a (kv_lk kv_fl o i))
    | _ => none
  | .getstatic i => kv_psh pc 3 L st ((kv_lk kv_sf o i).map (fun q => .ref (1000 + q.1)))
  | .invokespecial i => match kv_lk kv_oi o i with
    | some _ => match st with
      | .ref _ :: r => if (r.map fun v => v.category).sum ≤ 8 then some (pc + 3, L, r) else none
      | _ => none
    | none => none
  | .invokestatic i => match kv_lk kv_mm o i with
    | some (0, _) => match st with
      | .int x :: r => if (r.map fun v => v.category).sum ≤ 8 then some (pc + 3, L, .int (if 0 ≤ x then x else 0 - x) :: r) else none
      | _ => none
    | some (1, _) => match st with
      | .int y :: .int x :: r => if (r.map fun v => v.category).sum ≤ 8 then some (pc + 3, L, .int (if x < y then y else x) :: r) else none
      | _ => none
    | some (2, _) => match st with
      | .int y :: .int x :: r => if (r.map fun v => v.category).sum ≤ 8 then some (pc + 3, L, .int (if y < x then y else x) :: r) else none
      | _ => none
    | _ => none
  | _ => none
def kv_fn (ci : Nat) : Nat := match vwCl[ci]? with
  | some q => q.2.2
  | none => 0
def kv_fin (ci k : Nat) : Bool := match vwCl[ci]? with
  | some q => (q.2.1 k).2.2.2
  | none => true
def kv_dv (ci : Nat) : List Value := (List.range (kv_fn ci)).map (fun k => defaultValue (kv_ty ci k))
/-- one instruction that changes the heap: the new pc, stack, heap -/
def kv_hp (o kd : Nat) (ins : Instr) (pc : Nat) (st : List Value) (h : kv_H) : Option (Nat × List Value × kv_H) := match ins with
  | .iastore => match st with
    | .int x :: .int i :: .ref a :: r => match h[a]? with
      | some (.inl (0, n, .inl f)) => if i < 0 ∨ n ≤ i.toNatClampNeg then none else some (pc + 1, r, h.set a (.inl (0, n, .inl (upd f i.toNatClampNeg x))))
      | _ => none
    | _ => none
  | .lastore => match st with
    | .long x :: .int i :: .ref a :: r => match h[a]? with
      | some (.inl (1, n, .inr (.inl f))) => if i < 0 ∨ n ≤ i.toNatClampNeg then none else some (pc + 1, r, h.set a (.inl (1, n, .inr (.inl (vp_updL f i.toNatClampNeg x)))))
      | _ => none
    | _ => none
  | .aastore => match st with
    | .ref v :: .int i :: .ref a :: r => match h[a]? with
      | some (.inl (t, n, .inr (.inr (.inr (.inr f))))) => match h[v]? with
        | some (.inr (ci, _)) => if i < 0 ∨ n ≤ i.toNatClampNeg then none else if (t = 2 ∨ t = 3) ∧ kv_ec t = ci then some (pc + 1, r, h.set a (.inl (t, n, .inr (.inr (.inr (.inr (va_up f i.toNatClampNeg (some v)))))))) else none
        | _ => none
      | _ => none
    | _ => none
  | .putfield i => match st with
    | v :: .ref a :: r => match kv_lk kv_fl o i with
      | some (ci, k, _) => match h[a]? with
        | some (.inr (cj, fs)) => if cj = ci ∧ k < fs.length ∧ kv_fit (kv_ty ci k) v = true ∧ (kv_fin ci k = true → kd = 2 ∧ ci = o) then some (pc + 3, r, h.set a (.inr (ci, fs.set k v))) else none
        | _ => none
      | none => none
    | _ => none
  | .new i => match kv_lk kv_nw o i with
    | some (ci, _) => if h.length < 1000 then some (pc + 3, .ref h.length :: st, h ++ [.inr (ci, kv_dv ci)]) else none
    | none => none
  | .newarray .int => match st with
    | .int n :: r => if n < 0 ∨ 100000 < n.toNatClampNeg ∨ 1000 ≤ h.length then none else some (pc + 2, .ref h.length :: r, h ++ [.inl (0, n.toNatClampNeg, .inl (fun _ => 0))])
    | _ => none
  | .newarray .long => match st with
    | .int n :: r => if n < 0 ∨ 100000 < n.toNatClampNeg ∨ 1000 ≤ h.length then none else some (pc + 2, .ref h.length :: r, h ++ [.inl (1, n.toNatClampNeg, .inr (.inl (fun _ => 0)))])
    | _ => none
  | .anewarray i => match st with
    | .int n :: r => match kv_lk kv_an o i with
      | some (t, _) => if n < 0 ∨ 100000 < n.toNatClampNeg ∨ 1000 ≤ h.length then none else some (pc + 3, .ref h.length :: r, h ++ [.inl (t, n.toNatClampNeg, .inr (.inr (.inr (.inr (fun _ => none)))))])
      | none => none
    | _ => none
  | .invokestatic i => match kv_lk kv_ac o i with
    | some _ => match st with
      | .int n :: .int dp :: .ref a :: .int sp :: .ref a0 :: r => match h[a0]?, h[a]? with
        | some (.inl (0, n0, .inl f)), some (.inl (0, n1, .inl g)) => if sp < 0 ∨ dp < 0 ∨ n < 0 ∨ n0 < sp.toNatClampNeg + n.toNatClampNeg ∨ n1 < dp.toNatClampNeg + n.toNatClampNeg ∨ 8 < (r.map fun v => v.category).sum then none else some (pc + 3, r, h.set a (.inl (0, n1, .inl (va_cpy f g sp.toNatClampNeg dp.toNatClampNeg n.toNatClampNeg))))
        | _, _ => none
      | _ => none
    | none => none
  | _ => none
/-- a call: its kind (0 static, 1 virtual, 2 a constructor, 3 a nest mate's), the method, its link's place -/
def kv_cl1 (o : Nat) (ins : Instr) : Option (Nat × Nat × Nat) := match ins with
  | .invokestatic i => match kv_lk kv_ml o i with
    | some (0, y, p) => some (0, y, p)
    | _ => none
  | .invokevirtual i => match kv_lk kv_ml o i with
    | some (1, y, p) => some (1, y, p)
    | _ => none
  | .invokespecial i => match kv_lk kv_ml o i with
    | some (2, y, p) => some (2, y, p)
    | some (3, y, p) => some (3, y, p)
    | _ => none
  | _ => none
/-- the arguments of a call, the stack below them -/
noncomputable def kv_as (k y : Nat) (st : List Value) (h : kv_H) : Option (List Value × List Value) :=
  if (st.take (kv_np y)).length = kv_np y then
    match k with
    | 0 => if ((st.drop (kv_np y)).map fun v => v.category).sum ≤ 8 then some ((st.take (kv_np y)).reverse, st.drop (kv_np y)) else none
    | k => match st.drop (kv_np y) with
      | .ref b :: rest => if (rest.map fun v => v.category).sum ≤ 8 then
          match k with
          | 1 => match h[b]? with
            | some (.inr (ci, _)) => if ci = kv_o y then some (.ref b :: (st.take (kv_np y)).reverse, rest) else none
            | _ => none
          | _ => some (.ref b :: (st.take (kv_np y)).reverse, rest)
        else none
      | _ => none
  else none
/-- the end of a method -/
def kv_re (rt : Option FieldType) (ins : Instr) (st : List Value) : Option (Option Value) := match ins with
  | .ireturn => match rt, st with
    | some ty, [.int v] => if kv_fit ty (.int v) = true then some (some (.int v)) else none
    | _, _ => none
  | .lreturn => match rt, st with
    | some .long, [.long v] => some (some (.long v))
    | _, _ => none
  | .areturn => match rt, st with
    | some ty, [v] => if kv_isA v = true ∧ kv_fit ty v = true then some (some v) else none
    | _, _ => none
  | .return_ => match rt, st with
    | none, [] => some none
    | _, _ => none
  | _ => none
/-- n instructions of method y's frame, calls by C -/
def kv_rn (E : kv_V) (C : Nat → List Value → kv_H → Option Value → kv_H → Prop) (y : Nat) : Nat → Nat → kv_L → List Value → kv_H → Option Value → kv_H → Prop
  | 0, _, _, _, _, _, _ => False
  | n + 1, pc, L, st, h, r, hf => match kv_at y pc with
    | none => False
    | some (ins, len) => match kv_cl1 (kv_o y) ins with
      | some (k, z, _) => match kv_as k z st h with
        | some (as, rest) => ∃ (v : Option Value) (h1 : kv_H), C z as h v h1 ∧ kv_rn E C y n (pc + 3) L (v.toList ++ rest) h1 r hf
        | none => False
      | none => match kv_re (kv_rt y) ins st with
        | some v => r = v ∧ hf = h
        | none => match kv_op E (kv_o y) ins len pc L st h with
          | some (pc', L', st') => kv_rn E C y n pc' L' st' h r hf
          | none => match kv_hp (kv_o y) (kv_kd y) ins pc st h with
            | some (pc', st', h') => kv_rn E C y n pc' L st' h' r hf
            | none => False
/-- method y, called with as over the heap h, answers r and leaves h'; calls at most d deep -/
def kv_ev (E : kv_V) : Nat → Nat → List Value → kv_H → Option Value → kv_H → Prop
  | 0, _, _, _, _, _ => False
  | d + 1, y, as, h, r, hf => y < kv_nm ∧ (kv_ar as).length ≤ kv_maxL y ∧ ∃ n, kv_rn E (kv_ev E d) y n 0 (kv_in as (kv_maxL y)) [] h r hf
