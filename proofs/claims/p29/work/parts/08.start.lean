/-! THE CLAIM OUT OF ONE WALK OF THE LAW'S BODY. Your part is whole_start (and what it stands on); all else here is the same for every law, but numbers. -/
def R_law : String := "TiltBoardsLaw"
def lw_P (b : Addr) (xs : List Int32) (args : Array Value) (s : State) : Prop := args = #[.ref b] ∧ s.IntsAt b xs ∧ xs.length ≤ 260 ∧ (Jvm.Cond.and given_1 narrow_1).before args s = true
def lw_Q (_ : Array Value) (s : State) (o : Outcome) (t : State) : Prop := o = .returned (some (.int 1)) ∧ Framed s o t [] 600000 7302250
def lw_Z (below : List Frame) (a : Array Value) (s : State) : State → Prop := fun t => ∃ o, t.status = .running ∧ Ended t below o ∧ lw_Q a s o t
/-- the law's own end, with 1 on the stack, nothing written that was there before, its room as the claim has it -/
theorem lw_ret {p : Program} {l : Launch} {e : Env} {s : State} {m : MethodId} {below : List Frame} {meth : Method} {c : Code} {b : Nat} (hx : p.tables.exec = Jvm.exec) (hb : c.code = code) (hr : meth.sig.returnType = ret) (hlocks : meth.locks = false) {pc : Nat} {H : Heap} {ls : Array Slot} (hdg : decode code pc = .ok (.ireturn, 1)) : W p l e room_1 s m #[Value.ref b] below meth c H [] 600000 7302250 (lw_Z below #[Value.ref b] s) (F0 m pc ls [.int 1]) := by
  intro T hT X
  obtain ⟨fs, hret, hrun, hended, hW, hframe⟩ := X.leave (v := some (.int 1)) (hlocks := hlocks) (fun h => by rw [hr] at h; cases h)
  have hmeth' : T.vm.method? m = some meth := X.method'
  refine ⟨T.setFrames fs, ?_, .returned (some (.int 1)), hrun, hended, rfl, ⟨_, rfl⟩, hW, hframe⟩
  jvm_step X.here [X.here.top, hx, hb, hdg, hmeth', hr, ret, narrow_b1]
  (try refine ⟨rfl, ?_⟩); (try refine ⟨rfl, ?_⟩)
  first | (intro acts; rw [hret _ acts rfl rfl rfl]) | rw [hret _ _ rfl rfl rfl]
  exact Steps.refl _
/-- what holds at the law's entry: the machine, the code, the tables' words (any of lw_tbl by 'hts w (by decide +kernel)'), the script of L ints xs at the cell b, what the Statement gives of the start (any of its parts by flat_of_before) -/
def lw_At (p : Program) (s : State) (m : MethodId) (meth : Method) (c : Code) (b L : Nat) (xs : Nat → Int32) : Prop :=
  p.tables.exec = Jvm.exec ∧ c.code = code ∧ meth.sig.returnType = ret ∧ c.maxLocals = 9 ∧ s.vm.findClass R_law = some m.cls ∧ (∀ w ∈ lw_tbl, w.before #[Value.ref b] s = true) ∧ va_X b L xs s s.heap ∧ b < s.heap.size ∧ meth.locks = false ∧ (Jvm.Cond.and given_1 narrow_1).before #[Value.ref b] s = true
/-! THE LAW'S START: what the Statement gives, in the mini machine's words -/
def tb_fG : Nat → Int32 := fun j => match j with | 0 => 20 | 1 => 25 | 2 => 30 | 3 => 35 | _ => 0
def tb_fS : Nat → Int32 := fun j => match j with | 0 => 5 | 1 => 10 | 2 => 20 | _ => 0
def tb_fL : Nat → Int32 := fun j => match j with | 0 => 0 | 1 => 1 | 2 => 2 | _ => 0
def tb_fM : Nat → Int32 := fun j => match j with | 0 => 30 | 1 => 99 | 2 => 99 | _ => 0
def tb_stat (E : tb_env) : Prop := E.2.1 (E.1 0) = some (4, tb_fG) ∧ E.2.1 (E.1 1) = some (3, tb_fS) ∧ E.2.1 (E.1 2) = some (3, tb_fL) ∧ E.2.1 (E.1 3) = some (3, tb_fM)
theorem tb_nst_in : ∀ w ∈ tb_nst, w ∈ lw_tbl := by decide +kernel
theorem tb_sa1 {b : Nat} {s : State} (ht : (Jvm.Cond.and given_1 narrow_1).before #[Value.ref b] s = true) {A : Nat → Prop} (hA : ∀ a : Nat, a < s.heap.size → ¬ A a) (hts : ∀ w ∈ lw_tbl, w.before #[Value.ref b] s = true) {N : Nat} {nm : String} {f : Nat → Int32} (hN : N < 2 ^ 31)
    (h1 : Cond.arrayOf (.static "TiltBoards" nm "[I") .int ∈ flatC (Jvm.Cond.and given_1 narrow_1)) (h2 : Cond.eq (.length (.static "TiltBoards" nm "[I")) (.int (Int32.ofNat N)) ∈ flatC (Jvm.Cond.and given_1 narrow_1)) (h3 : ∀ j, j < N → Cond.eq (.elem (.static "TiltBoards" nm "[I") (.int (Int32.ofNat j))) (.int (f j)) ∈ flatC (Jvm.Cond.and given_1 narrow_1)) (h4 : Cond.laysStatic "TiltBoards" nm "[I" ∈ lw_tbl) (h5 : Cond.not (Cond.eq (.arg 0) (.static "TiltBoards" nm "[I")) ∈ flatC (Jvm.Cond.and given_1 narrow_1)) :
    ∃ t : Nat, va_Z "TiltBoards" nm "[I" (.ref t) A s s.heap ∧ va_T .int t N (fun j => .int (f j)) A s s.heap ∧ t ≠ b := by
  have hs := flat_of_before _ ht
  obtain ⟨t, e1, e2⟩ := va_Tof (f := fun j => .int (f j)) hN (hs _ h1) (va_eqt (hs _ h2)) (fun j hj => va_eqt (hs _ (h3 j hj))) hA
  refine ⟨t, va_Zref (hts _ h4) (hts _ (tb_k3 5 (by decide))) e1 hA, e2, fun e => ?_⟩
  subst e
  have h := hs _ h5
  have ea : (Term.arg 0).eval #[Value.ref t] s none [] s = some (.ref t) := rfl
  simp [Cond.before, Cond.holds, Cond.value, ea, e1] at h
theorem tb_T_ne {s : State} {A : Nat → Prop} {t t' N N' : Nat} {f f' : Nat → Int32} (h : va_T .int t N (fun j => .int (f j)) A s s.heap) (h' : va_T .int t' N' (fun j => .int (f' j)) A s s.heap) (hN : 0 < N) (hN' : 0 < N') (hf : f 0 ≠ f' 0) : t ≠ t' := by
  intro e
  subst e
  obtain ⟨c1, a1, -, -, -, -, a2, -⟩ := h
  obtain ⟨c2, b1, -, -, -, -, b2, -⟩ := h'
  cases a1.symm.trans b1
  have h3 := (a2 0 hN).symm.trans (b2 0 hN')
  exact hf (Value.int.inj (Option.some.inj h3))
theorem tb_X_T {b L : Nat} {xs : Nat → Int32} {s : State} {A : Nat → Prop} (h : va_X b L xs s s.heap) (hA : ¬ A b) : va_T .int b L (fun j => .int (xs j)) A s s.heap := by
  obtain ⟨scr, h1, h2, h3, h4, h5⟩ := h
  exact ⟨scr, h1, h2, h3, by omega, by rw [h4], h5, hA⟩
theorem tb_begin {p : Program} {s : State} {m : MethodId} {meth : Method} {c : Code} {b L : Nat} {xs : Nat → Int32} (C0 : lw_At p s m meth c b L xs) : ∃ (D : va_G) (dA : Nat → ClassId) (E : tb_env), E.2.2 = s.heap.size ∧ tb_EN D dA E s ∧ E.2.1 b = some (L, xs) ∧ tb_stat E := by
  obtain ⟨hx, hb, hr, hml, hown, hts, hX, hbl, hlocks, hgv⟩ := C0
  have hcl : ∀ k, ∃ (q : ClassId × (Nat → Nat)), k < 6 → u_Kn s (tb_cn k) (tb_F k) (tb_nF k) q.1 q.2 := by
    intro k
    by_cases hk : k < 6
    · obtain ⟨cC, iS, h⟩ := u_known (n := tb_nF k) hts (tb_k8 k hk).1 (hts _ (tb_k8 k hk).2)
      exact ⟨(cC, iS), fun _ => h⟩
    · exact ⟨(0, fun _ => 0), fun h => absurd h hk⟩
  obtain ⟨qD, hqD⟩ := Classical.axiomOfChoice hcl
  have harr : ∀ (ty : FieldType), Cond.arrayClass ty ∈ lw_tbl → (∀ C, ty ≠ .object C) → ∃ cA : ClassId, ArrOfT s cA ty ∧ va_RA s cA ty := by
    intro ty hty hno
    obtain ⟨cA, kA, comp, h1, h2, h3⟩ := Cond.arrayClass_spec (hts _ hty)
    refine ⟨cA, fun n z => ⟨fun k h => (by cases h), kA, h2, comp, h3⟩, ?_⟩
    cases ty <;> first | exact h1 | exact absurd rfl (hno _)
  have harq : ∀ (C : String), Cond.arrayOver (.object C) ∈ lw_tbl → ∃ cA : ClassId, ArrOfT s cA (.object C) ∧ va_RA s cA (.object C) := by
    intro C hC
    obtain ⟨comp, cA, kA, h1, h2, h3, h4, h5⟩ := Cond.arrayOver_spec (hts _ hC)
    exact ⟨cA, fun n z => ⟨fun k h => (by cases h), kA, h3, comp, h4⟩, kA, comp, h3, h4, h1, h5⟩
  obtain ⟨a0, ha0⟩ := harr .int (by decide +kernel) (fun C h => by cases h)
  obtain ⟨a1, ha1⟩ := harr .boolean (by decide +kernel) (fun C h => by cases h)
  obtain ⟨a2, ha2⟩ := harr .char (by decide +kernel) (fun C h => by cases h)
  obtain ⟨a3, ha3⟩ := harq "TiltBoards$Board" (by decide +kernel)
  obtain ⟨a4, ha4⟩ := harq "TiltBoards$State" (by decide +kernel)
  have hA : ∀ a : Nat, a < s.heap.size → ¬ s.heap.size ≤ a := fun a h => Nat.not_le.mpr h
  obtain ⟨t0, z0, w0, n0⟩ := tb_sa1 (A := fun q => s.heap.size ≤ q) (N := 4) (nm := "FIRST_GRIP") (f := tb_fG) hgv hA hts (by decide) (by decide +kernel) (by decide +kernel) (by decide +kernel) (by decide +kernel) (by decide +kernel)
  obtain ⟨t1, z1, w1, n1⟩ := tb_sa1 (A := fun q => s.heap.size ≤ q) (N := 3) (nm := "FIRST_SETTING") (f := tb_fS) hgv hA hts (by decide) (by decide +kernel) (by decide +kernel) (by decide +kernel) (by decide +kernel) (by decide +kernel)
  obtain ⟨t2, z2, w2, n2⟩ := tb_sa1 (A := fun q => s.heap.size ≤ q) (N := 3) (nm := "LEAST_SETTING") (f := tb_fL) hgv hA hts (by decide) (by decide +kernel) (by decide +kernel) (by decide +kernel) (by decide +kernel) (by decide +kernel)
  obtain ⟨t3, z3, w3, n3⟩ := tb_sa1 (A := fun q => s.heap.size ≤ q) (N := 3) (nm := "MOST_SETTING") (f := tb_fM) hgv hA hts (by decide) (by decide +kernel) (by decide +kernel) (by decide +kernel) (by decide +kernel) (by decide +kernel)
  have wb := tb_X_T (A := fun q => s.heap.size ≤ q) hX (Nat.not_le.mpr hbl)
  have m01 := tb_T_ne w0 w1 (by decide) (by decide) (by decide)
  have m02 := tb_T_ne w0 w2 (by decide) (by decide) (by decide)
  have m03 := tb_T_ne w0 w3 (by decide) (by decide) (by decide)
  have m12 := tb_T_ne w1 w2 (by decide) (by decide) (by decide)
  have m13 := tb_T_ne w1 w3 (by decide) (by decide) (by decide)
  have m23 := tb_T_ne w2 w3 (by decide) (by decide) (by decide)
  refine ⟨(fun k => (qD k).1, fun k => (qD k).2), (fun k => if k = 0 then a0 else if k = 1 then a1 else if k = 2 then a2 else if k = 10 then a3 else a4), (fun k => if k = 0 then t0 else if k = 1 then t1 else if k = 2 then t2 else t3, fun a => if a = b then some (L, xs) else if a = t0 then some (4, tb_fG) else if a = t1 then some (3, tb_fS) else if a = t2 then some (3, tb_fL) else if a = t3 then some (3, tb_fM) else none, s.heap.size), rfl, ⟨⟨fun k q hq => ?_, fun k q hq => ?_⟩, fun w hw => ?_, ⟨hts (.arrayOver (.object "TiltBoards$Board")) (by decide +kernel), hts (.arrayOver (.object "TiltBoards$State")) (by decide +kernel)⟩, fun k hk => ?_, fun a n f hf => ?_⟩, ?_, ?_⟩
  · have h7 := tb_cls_lt hq
    rw [tb_cls_get h7] at hq
    cases hq
    exact hqD k h7
  · match k, hq with
    | 0, hq => cases hq; exact ha0
    | 1, hq => cases hq; exact ha1
    | 2, hq => cases hq; exact ha2
    | 3, hq => cases hq; exact ha3
    | 4, hq => cases hq; exact ha4
    | k + 5, hq => simp [tb_tys] at hq
  · have hb0 := hts w (tb_nst_in w hw)
    rcases tb_nst_form hw with ⟨_, _, _, _, rfl⟩ | ⟨_, _, _, _, _, _, rfl⟩
    · exact va_Nw.of rfl hb0
    · exact va_Nw.of rfl hb0
  · match k, hk with
    | 0, _ => exact z0
    | 1, _ => exact z1
    | 2, _ => exact z2
    | 3, _ => exact z3
  · dsimp only at hf
    split at hf
    · rename_i e; subst e; cases hf; exact wb
    · split at hf
      · rename_i e; subst e; cases hf; exact w0
      · split at hf
        · rename_i e; subst e; cases hf; exact w1
        · split at hf
          · rename_i e; subst e; cases hf; exact w2
          · split at hf
            · rename_i e; subst e; cases hf; exact w3
            · cases hf
  · simp
  · refine ⟨?_, ?_, ?_, ?_⟩
    · simp [n0]
    · simp [n1, Ne.symm m01]
    · simp [n2, Ne.symm m02, Ne.symm m12]
    · simp [n3, Ne.symm m03, Ne.symm m13, Ne.symm m23]
/-- the law's run of the mini machine is all that is wanting -/
def tb_goal : Prop := ∀ (E : tb_env) (b L : Nat) (xs : Nat → Int32), L ≤ 260 → (∀ a v, E.2.1 a = some v → a < E.2.2) → E.2.1 b = some (L, xs) → tb_stat E → ∃ (f : Nat) (h : tb_heap) (nx : Nat), tb_run E f 11 tb_nLaw 0 [.ref b, .long 0, .long 0, .long 0, .long 0, .long 0, .long 0, .long 0, .long 0] [] (fun _ => none) E.2.2 600000 7302250 = some (some (.int 1), h, nx)
set_option maxRecDepth 100000 in
theorem tb_lawcode : tb_by tb_nLaw = code := rfl
set_option maxRecDepth 100000 in
theorem tb_whole (hg : tb_goal) {p : Program} {e : Env} {s : State} {m : MethodId} {below : List Frame} {meth : Method} {c : Code} (l : Launch) {b L : Nat} {xs : Nat → Int32} (hL : L ≤ 260) (C0 : lw_At p s m meth c b L xs) : W p l e room_1 s m #[Value.ref b] below meth c s.heap [] 0 0 (lw_Z below #[Value.ref b] s) (entryFrame m ([Value.ref b] : List Value).toArray 9) := by
  obtain ⟨D, dA, E, hbase, hEN, hsc, hst⟩ := tb_begin C0
  obtain ⟨hx, hb, hr, hml, hown, hts, hX, hbl, hlocks, hgv⟩ := C0
  obtain ⟨f, h, nx, hrun⟩ := hg E b L xs hL (fun a v hv => by obtain ⟨_, _, _, _, _, _, _, hA⟩ := hEN.2.2.2.2 a v.1 v.2 hv; exact Nat.not_le.mp hA) hsc hst
  have Ct : tb_Ctx D dA E p room_1 s m #[Value.ref b] meth c 11 tb_nLaw := ⟨hx, hb, hml, hown, fun w hw => hts w (List.mem_filter.mp hw).1, hlocks, fun hk => absurd hk (by decide), hEN, rfl, by decide⟩
  rw [lg_entry_eq]
  refine tb_simRun f 11 tb_nLaw 0 (tb_ent tb_nLaw [.ref b]) [] (fun _ => none) E.2.2 600000 7302250 _ hrun p e room_1 s m #[Value.ref b] below meth c _ Ct ?_ _ s.heap [] 0 0 (tb_LR.entry (t := tb_nLaw) (fun v hv => by rw [List.mem_singleton.mp hv]; rfl) (show 1 ≤ 9 by decide)) ⟨(fun a x hx => by cases hx), hbase.symm, Nat.le_refl _, va_S.rf⟩ (by show 0 + 600000 ≤ 600000; omega) (by show 0 + 7302250 ≤ 7302250; omega)
  intro pc lsR st H locs cells slots hre hI hc1 hc2
  refine va_forget (fun q hq => by rw [← hbase]; exact hI.2.2.2.2.2 q hq) ?_
  refine W.widen (k := 600000) (n := 7302250) hc1 hc2 ?_
  unfold tb_re at hre
  split at hre
  · rename_i hcd
    split at hre
    · split at hre
      · have hv := Option.some.inj hre
        cases hv
        have hd := tb_cd_ok hcd
        rw [tb_lawcode] at hd
        exact lw_ret hx hb hr hlocks hd
      · cases hre
    · cases hre
  · split at hre
    · split at hre
      · cases hre
      · cases hre
    · cases hre
  · cases hre
