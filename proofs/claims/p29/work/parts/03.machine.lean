/-! THE MINI MACHINE: one instruction (tb_stp), a run (tb_run), over a heap that is a function from addresses to cells -/
abbrev tb_cell : Type := (Nat × List Value) ⊕ ((Nat × Nat × (Nat → Int32)) ⊕ (Nat × Nat × (Nat → Option Nat)))
abbrev tb_heap : Type := Nat → Option tb_cell
abbrev tb_ob (ci : Nat) (fs : List Value) : tb_cell := .inl (ci, fs)
abbrev tb_ar (ty n : Nat) (f : Nat → Int32) : tb_cell := .inr (.inl (ty, n, f))
abbrev tb_rr (ci n : Nat) (g : Nat → Option Nat) : tb_cell := .inr (.inr (ci, n, g))
def tb_up (h : tb_heap) (a : Nat) (x : tb_cell) : tb_heap := fun q => if q = a then some x else h q
/-- the static rows' addresses; rows that lie below the base and are only read; the base -/
abbrev tb_env : Type := (Nat → Nat) × (Nat → Option (Nat × (Nat → Int32))) × Nat
abbrev tb_cfg : Type := Nat × List Value × List Value × tb_heap × Nat × Nat × Nat
def tb_vok (ty : FieldType) (v : Value) : Bool := match ty, v with
  | .int, .int _ => true
  | .boolean, .int x => x == 0 || x == 1
  | .char, .int x => decide (0 ≤ x) && decide (x < 65536)
  | .array _, .ref _ => true
  | .object _, .ref _ => true
  | _, _ => false
def tb_rok (r : Option FieldType) (v : Int32) : Bool := match r with
  | some .int => true
  | some .boolean => v == 0 || v == 1
  | _ => false
def tb_tg (pc : Nat) (off : Int) : Option Nat := if 0 ≤ (pc : Int) + off then some ((pc : Int) + off).toNat else none
def tb_sm (st : List Value) : Bool := decide ((st.map fun v => v.category).sum ≤ 8)
def tb_df (ci : Nat) : List Value := (List.range (tb_nF ci)).map (fun j => defaultValue (tb_T ci j))
def tb_len (i : Instr) (n : Nat) : Nat := match i with
  | .bipush _ => 2 | .iload _ => 2 | .aload _ => 2 | .istore _ => 2 | .astore _ => 2 | .ldc _ => 2 | .newarray _ => 2
  | .sipush _ => 3 | .iinc _ _ => 3 | .getfield _ => 3 | .putfield _ => 3 | .getstatic _ => 3 | .goto _ => 3 | .ifCond _ _ => 3 | .if_icmp _ _ => 3
  | .invokevirtual _ => 3 | .invokestatic _ => 3 | .invokespecial _ => 3 | .new _ => 3 | .anewarray _ => 3
  | .tableswitch _ _ _ _ => n | .lookupswitch _ _ => n
  | _ => 1
/-- an array that can be read: on the heap, or below the base -/
def tb_ra (E : tb_env) (h : tb_heap) (ty a : Nat) : Option (Nat × (Nat → Int32)) := match h a with
  | some (.inr (.inl (t, n, f))) => if t = ty then some (n, f) else none
  | some _ => none
  | none => if ty = 0 then E.2.1 a else none
def tb_ld (E : tb_env) (h : tb_heap) (ty a : Nat) (i : Int32) : Option Int32 := match tb_ra E h ty a with
  | some (n, f) => if i < 0 ∨ n ≤ i.toNatClampNeg then none else some (f i.toNatClampNeg)
  | none => none
def tb_stv (h : tb_heap) (ty a : Nat) (i x : Int32) : Option tb_heap := match h a with
  | some (.inr (.inl (t, n, f))) => if t = ty then (if i < 0 ∨ n ≤ i.toNatClampNeg then none else some (tb_up h a (.inr (.inl (t, n, upd f i.toNatClampNeg x))))) else none
  | _ => none
def tb_gf (h : tb_heap) (a ci k : Nat) : Option Value := match h a with
  | some (.inl (c, fs)) => if c = ci then fs[k]? else none
  | _ => none
def tb_pf (h : tb_heap) (a ci k : Nat) (v : Value) : Option tb_heap := match h a with
  | some (.inl (c, fs)) => if c = ci ∧ k < fs.length then some (tb_up h a (.inl (c, fs.set k v))) else none
  | _ => none
def tb_ald (h : tb_heap) (a : Nat) (i : Int32) : Option Nat := match h a with
  | some (.inr (.inr (_, n, g))) => if i < 0 ∨ n ≤ i.toNatClampNeg then none else g i.toNatClampNeg
  | _ => none
def tb_ast (h : tb_heap) (a : Nat) (i : Int32) (v : Nat) : Option tb_heap := match h a, h v with
  | some (.inr (.inr (c, n, g))), some (.inl (c', _)) => if c' = c then (if i < 0 ∨ n ≤ i.toNatClampNeg then none else some (tb_up h a (.inr (.inr (c, n, va_up g i.toNatClampNeg (some v)))))) else none
  | _, _ => none
def tb_cp (h : tb_heap) (a : Nat) (sp : Int32) (b : Nat) (dp n : Int32) : Option tb_heap := match h a, h b with
  | some (.inr (.inl (t, n0, f))), some (.inr (.inl (t', n1, g))) =>
    if t = t' ∧ t < 2 ∧ ¬ sp < 0 ∧ ¬ dp < 0 ∧ ¬ n < 0 ∧ sp.toNatClampNeg + n.toNatClampNeg ≤ n0 ∧ dp.toNatClampNeg + n.toNatClampNeg ≤ n1 then some (tb_up h b (.inr (.inl (t', n1, va_cpy f g sp.toNatClampNeg dp.toNatClampNeg n.toNatClampNeg)))) else none
  | _, _ => none
def tb_cnd (c : Jvm.ClassFile.Cond) (x y : Int32) : Bool := match c with
  | .eq => decide (x = y) | .ne => !decide (x = y) | .lt => decide (x < y) | .ge => decide (y ≤ x) | .gt => decide (y < x) | .le => decide (x ≤ y)
/-- one instruction that neither calls a method of ours nor returns -/
def tb_stp1 (E : tb_env) (d m : Nat) (i : Instr) (n pc : Nat) (ls st : List Value) (h : tb_heap) (nx bc bs : Nat) : Option tb_cfg :=
  match i with
  | .iconst k => some (pc + 1, ls, .int (Int32.ofInt k) :: st, h, nx, bc, bs)
  | .bipush k => some (pc + 2, ls, .int (Int8.ofInt k).toInt32 :: st, h, nx, bc, bs)
  | .sipush k => some (pc + 3, ls, .int (Int16.ofInt k).toInt32 :: st, h, nx, bc, bs)
  | .ldc ix => (tb_kc (tb_ow m) ix).bind fun v => some (pc + 2, ls, .int v :: st, h, nx, bc, bs)
  | .iload k => match ls[k]? with | some (.int x) => some (pc + 2, ls, .int x :: st, h, nx, bc, bs) | _ => none
  | .iload_n k => match ls[k.val]? with | some (.int x) => some (pc + 1, ls, .int x :: st, h, nx, bc, bs) | _ => none
  | .aload k => match ls[k]? with | some (.ref x) => some (pc + 2, ls, .ref x :: st, h, nx, bc, bs) | _ => none
  | .aload_n k => match ls[k.val]? with | some (.ref x) => some (pc + 1, ls, .ref x :: st, h, nx, bc, bs) | _ => none
  | .istore k => match st with | .int x :: r => if k < ls.length then some (pc + 2, ls.set k (.int x), r, h, nx, bc, bs) else none | _ => none
  | .istore_n k => match st with | .int x :: r => if k.val < ls.length then some (pc + 1, ls.set k.val (.int x), r, h, nx, bc, bs) else none | _ => none
  | .astore k => match st with | .ref x :: r => if k < ls.length then some (pc + 2, ls.set k (.ref x), r, h, nx, bc, bs) else none | _ => none
  | .astore_n k => match st with | .ref x :: r => if k.val < ls.length then some (pc + 1, ls.set k.val (.ref x), r, h, nx, bc, bs) else none | _ => none
  | .iinc k z => match ls[k]? with | some (.int x) => some (pc + 3, ls.set k (.int (x + Int32.ofInt z)), st, h, nx, bc, bs) | _ => none
  | .dup => match st with | .int x :: r => some (pc + 1, ls, .int x :: .int x :: r, h, nx, bc, bs) | .ref x :: r => some (pc + 1, ls, .ref x :: .ref x :: r, h, nx, bc, bs) | _ => none
  | .dup2 => match st with | .int x :: .ref y :: r => some (pc + 1, ls, .int x :: .ref y :: .int x :: .ref y :: r, h, nx, bc, bs) | _ => none
  | .pop => match st with | .int _ :: r => some (pc + 1, ls, r, h, nx, bc, bs) | .ref _ :: r => some (pc + 1, ls, r, h, nx, bc, bs) | _ => none
  | .iadd => match st with | .int y :: .int x :: r => some (pc + 1, ls, .int (x + y) :: r, h, nx, bc, bs) | _ => none
  | .isub => match st with | .int y :: .int x :: r => some (pc + 1, ls, .int (x - y) :: r, h, nx, bc, bs) | _ => none
  | .imul => match st with | .int y :: .int x :: r => some (pc + 1, ls, .int (x * y) :: r, h, nx, bc, bs) | _ => none
  | .iand => match st with | .int y :: .int x :: r => some (pc + 1, ls, .int (x &&& y) :: r, h, nx, bc, bs) | _ => none
  | .ishr => match st with | .int y :: .int x :: r => some (pc + 1, ls, .int (x >>> (y &&& 31)) :: r, h, nx, bc, bs) | _ => none
  | .idiv => match st with | .int y :: .int x :: r => if y = 0 then none else some (pc + 1, ls, .int (x / y) :: r, h, nx, bc, bs) | _ => none
  | .irem => match st with | .int y :: .int x :: r => if y = 0 then none else some (pc + 1, ls, .int (x - x / y * y) :: r, h, nx, bc, bs) | _ => none
  | .i2c => match st with | .int x :: r => some (pc + 1, ls, .int (x.toUInt32 % 65536).toInt32 :: r, h, nx, bc, bs) | _ => none
  | .getfield ix => match st with | .ref a :: r => (tb_fl (tb_ow m) ix).bind fun q => (tb_gf h a q.1 q.2).bind fun v => some (pc + 3, ls, v :: r, h, nx, bc, bs) | _ => none
  | .putfield ix => match st with
    | v :: .ref a :: r => (tb_fl (tb_ow m) ix).bind fun q => if tb_vok (tb_T q.1 q.2) v = true ∧ ((tb_F q.1 q.2).2.2.2 = false ∨ (tb_kd m = 2 ∧ tb_ow m = q.1)) then (tb_pf h a q.1 q.2 v).bind fun h' => some (pc + 3, ls, r, h', nx, bc, bs) else none
    | _ => none
  | .getstatic ix => (tb_sl (tb_ow m) ix).bind fun k => some (pc + 3, ls, .ref (E.1 k) :: st, h, nx, bc, bs)
  | .iaload => match st with | .int i :: .ref a :: r => (tb_ld E h 0 a i).bind fun x => some (pc + 1, ls, .int x :: r, h, nx, bc, bs) | _ => none
  | .baload => match st with | .int i :: .ref a :: r => (tb_ld E h 1 a i).bind fun x => some (pc + 1, ls, .int x :: r, h, nx, bc, bs) | _ => none
  | .caload => match st with | .int i :: .ref a :: r => (tb_ld E h 2 a i).bind fun x => some (pc + 1, ls, .int x :: r, h, nx, bc, bs) | _ => none
  | .aaload => match st with | .int i :: .ref a :: r => (tb_ald h a i).bind fun x => some (pc + 1, ls, .ref x :: r, h, nx, bc, bs) | _ => none
  | .iastore => match st with | .int x :: .int i :: .ref a :: r => (tb_stv h 0 a i x).bind fun h' => some (pc + 1, ls, r, h', nx, bc, bs) | _ => none
  | .bastore => match st with | .int x :: .int i :: .ref a :: r => if x = 0 ∨ x = 1 then (tb_stv h 1 a i x).bind fun h' => some (pc + 1, ls, r, h', nx, bc, bs) else none | _ => none
  | .castore => match st with | .int x :: .int i :: .ref a :: r => if 0 ≤ x ∧ x < 65536 then (tb_stv h 2 a i x).bind fun h' => some (pc + 1, ls, r, h', nx, bc, bs) else none | _ => none
  | .aastore => match st with | .ref v :: .int i :: .ref a :: r => (tb_ast h a i v).bind fun h' => some (pc + 1, ls, r, h', nx, bc, bs) | _ => none
  | .arraylength => match st with | .ref a :: r => (tb_ra E h 0 a).bind fun q => some (pc + 1, ls, .int (Int32.ofNat q.1) :: r, h, nx, bc, bs) | _ => none
  | .new ix => (tb_cl (tb_ow m) ix).bind fun ci => if 1 ≤ bc ∧ tb_nF ci ≤ bs then some (pc + 3, ls, .ref nx :: st, tb_up h nx (.inl (ci, tb_df ci)), nx + 1, bc - 1, bs - tb_nF ci) else none
  | .newarray t => match st with
    | .int n :: r => (match t with | .int => some 0 | .boolean => some 1 | .char => some 2 | _ => none).bind fun ty => if ¬ n < 0 ∧ n.toNatClampNeg ≤ 100000 ∧ 1 ≤ bc ∧ n.toNatClampNeg ≤ bs then some (pc + 2, ls, .ref nx :: r, tb_up h nx (.inr (.inl (ty, n.toNatClampNeg, fun _ => 0))), nx + 1, bc - 1, bs - n.toNatClampNeg) else none
    | _ => none
  | .anewarray ix => match st with
    | .int n :: r => (tb_cl (tb_ow m) ix).bind fun ci => if (ci = 0 ∨ ci = 4) ∧ ¬ n < 0 ∧ n.toNatClampNeg ≤ 100000 ∧ 1 ≤ bc ∧ n.toNatClampNeg ≤ bs then some (pc + 3, ls, .ref nx :: r, tb_up h nx (.inr (.inr (ci, n.toNatClampNeg, fun _ => none))), nx + 1, bc - 1, bs - n.toNatClampNeg) else none
    | _ => none
  | .goto off => (tb_tg pc off).bind fun t => some (t, ls, st, h, nx, bc, bs)
  | .ifCond c off => match st with | .int x :: r => (tb_tg pc off).bind fun t => some (bif tb_cnd c x 0 then t else pc + 3, ls, r, h, nx, bc, bs) | _ => none
  | .if_icmp c off => match st with | .int y :: .int x :: r => (tb_tg pc off).bind fun t => some (bif tb_cnd c x y then t else pc + 3, ls, r, h, nx, bc, bs) | _ => none
  | .tableswitch df lo hi offs => match st with
    | .int x :: r => if x.toInt < lo ∨ hi < x.toInt then (tb_tg pc df).bind fun t => some (t, ls, r, h, nx, bc, bs) else (offs[(x.toInt - lo).toNat]?).bind fun o => (tb_tg pc o).bind fun t => some (t, ls, r, h, nx, bc, bs)
    | _ => none
  | .lookupswitch df ps => match st with
    | .int x :: r => if (ps.toList.zip (ps.toList.drop 1)).all (fun (a, next) => a.1 < next.1) = true then (tb_tg pc (Op.lookupswitch.offset ps.toList df x.toInt)).bind fun t => some (t, ls, r, h, nx, bc, bs) else none
    | _ => none
  | .invokespecial ix => match st with
    | .ref _ :: r => if tb_lk (tb_ow m) ix = some (1001, false) ∧ 0 < d ∧ tb_sm r = true then some (pc + 3, ls, r, h, nx, bc, bs) else none
    | _ => none
  | .invokestatic ix =>
    match tb_lk (tb_ow m) ix with
    | some (1002, false) => match st with | .int y :: .int x :: r => if 0 < d ∧ tb_sm r = true then some (pc + 3, ls, .int (if x < y then y else x) :: r, h, nx, bc, bs) else none | _ => none
    | some (1003, false) => match st with | .int y :: .int x :: r => if 0 < d ∧ tb_sm r = true then some (pc + 3, ls, .int (if y < x then y else x) :: r, h, nx, bc, bs) else none | _ => none
    | some (1004, false) => match st with | .int n :: .int dp :: .ref b :: .int sp :: .ref a :: r => if 0 < d ∧ tb_sm r = true then (tb_cp h a sp b dp n).bind fun h' => some (pc + 3, ls, r, h', nx, bc, bs) else none | _ => none
    | _ => none
  | _ => none
def tb_stp (E : tb_env) (d m pc : Nat) (ls st : List Value) (h : tb_heap) (nx bc bs : Nat) : Option tb_cfg := match tb_cd m pc with
  | some (i, n) => if n = tb_len i n then tb_stp1 E d m i n pc ls st h nx bc bs else none
  | none => none
/-- which method of ours is called at pc -/
def tb_iv (m pc : Nat) : Option (Nat × Bool) := match tb_cd m pc with
  | some (.invokevirtual ix, 3) => match tb_lk (tb_ow m) ix with | some (t, b) => if t < 1000 ∧ tb_kd t = 0 then some (t, b) else none | none => none
  | some (.invokestatic ix, 3) => match tb_lk (tb_ow m) ix with | some (t, b) => if t < 1000 ∧ tb_kd t = 1 then some (t, b) else none | none => none
  | some (.invokespecial ix, 3) => match tb_lk (tb_ow m) ix with | some (t, b) => if t < 1000 ∧ tb_kd t = 2 then some (t, b) else none | none => none
  | _ => none
/-- a call's arguments, and what is left of the stack -/
def tb_as (t : Nat) (st : List Value) : Option (List Value × List Value) :=
  if tb_kd t = 1 then (if tb_na t ≤ st.length then some ((st.take (tb_na t)).reverse, st.drop (tb_na t)) else none)
  else match st.drop (tb_na t) with | .ref b :: r => some (.ref b :: (st.take (tb_na t)).reverse, r) | _ => none
def tb_ent (t : Nat) (av : List Value) : List Value := av ++ List.replicate (tb_mL t - av.length) (.long 0)
/-- the receiver of a virtual call is an object of the method's class -/
def tb_rv (t : Nat) (av : List Value) (h : tb_heap) : Bool := !(tb_kd t == 0) || (match av with
  | .ref b :: _ => match h b with | some (.inl (ci, _)) => ci == tb_ow t | _ => false
  | _ => false)
def tb_ck (d t : Nat) (av r : List Value) (h : tb_heap) (bc bs : Nat) : Bool := decide (0 < d) && tb_sm r && av.all (fun v => v.category == 1) && decide (av.length ≤ tb_mL t) && tb_rv t av h && decide (tb_mc t ≤ bc) && decide (tb_ms t ≤ bs)
/-- what a return answers -/
def tb_re (m pc : Nat) (st : List Value) : Option (Option Value) := match tb_cd m pc with
  | some (.ireturn, 1) => match st with | [.int v] => if tb_rok (tb_rt m) v = true then some (some (.int v)) else none | _ => none
  | some (.return_, 1) => match st with | [] => if (tb_rt m).isNone = true then some none else none | _ => none
  | _ => none
def tb_run (E : tb_env) : Nat → Nat → Nat → Nat → List Value → List Value → tb_heap → Nat → Nat → Nat → Option (Option Value × tb_heap × Nat)
  | 0, _, _, _, _, _, _, _, _, _ => none
  | f + 1, d, m, pc, ls, st, h, nx, bc, bs =>
    match tb_re m pc st with
    | some v => some (v, h, nx)
    | none => match tb_iv m pc with
      | some q => match tb_as q.1 st with
        | some w => if tb_ck d q.1 w.1 w.2 h bc bs = true then (match tb_run E f (d - 1) q.1 0 (tb_ent q.1 w.1) [] h nx (tb_mc q.1) (tb_ms q.1) with
          | some z => tb_run E f d m (pc + 3) ls (z.1.toList ++ w.2) z.2.1 z.2.2 (bc - tb_mc q.1) (bs - tb_ms q.1)
          | none => none) else none
        | none => none
      | none => match tb_stp E d m pc ls st h nx bc bs with
        | some z => tb_run E f d m z.1 z.2.1 z.2.2.1 z.2.2.2.1 z.2.2.2.2.1 z.2.2.2.2.2.1 z.2.2.2.2.2.2
        | none => none
