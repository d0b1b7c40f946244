/-! A RUN OF THE MINI MACHINE, ON THE REAL ONE -/
section TB3
variable {l : Launch} {D : va_G} {dA : Nat → ClassId} {E : tb_env}
def tb_rm (d t : Nat) : Room := { frames := d, cells := tb_mc t, slots := tb_ms t, locals := 38 * d }
def tb_Pc (D : va_G) (dA : Nat → ClassId) (E : tb_env) (av : List Value) (h : tb_heap) (nx : Nat) : Array Value → State → Prop := fun a U => a = av.toArray ∧ tb_EN D dA E U ∧ tb_RH D dA E.2.2 h U.heap ∧ U.heap.size = nx ∧ E.2.2 ≤ nx
def tb_Qc (D : va_G) (dA : Nat → ClassId) (E : tb_env) (v : Option Value) (h : tb_heap) (nx : Nat) : Array Value → State → Outcome → State → Prop := fun _ st o t => o = .returned v ∧ tb_RH D dA E.2.2 h t.heap ∧ t.heap.size = nx ∧ E.2.2 ≤ nx ∧ st.heap.size ≤ nx ∧ (∀ q : Nat, q < st.heap.size → ¬ E.2.2 ≤ q → t.heap[q]? = st.heap[q]?)
theorem tb_nst_form {w : Cond} (h : w ∈ tb_nst) : (∃ a i x h, w = .methodLinkNest a i x h) ∨ ∃ a i b n d h, w = .fieldLinkNest a i b n d h := by
  rcases List.mem_append.mp h with h | h
  · obtain ⟨q, -, rfl⟩ := List.mem_map.mp h
    exact Or.inl ⟨_, _, _, _, rfl⟩
  · obtain ⟨q, -, rfl⟩ := List.mem_map.mp h
    exact Or.inr ⟨_, _, _, _, _, _, rfl⟩
theorem tb_EN.warm {s U : State} (h : tb_EN D dA E s) (hW : s.WarmedH U.vm) (hz : s.heap.size ≤ U.heap.size) (ho : ∀ q : Nat, q < s.heap.size → ¬ E.2.2 ≤ q → U.heap[q]? = s.heap[q]?) : tb_EN D dA E U := by
  obtain ⟨h1, h2, h3, h4, h5⟩ := h
  refine ⟨h1.moved hW.alike, fun w hw => ?_, ⟨h3.1.moved hW.alike, h3.2.moved hW.alike⟩, fun k hk => ((h4 k hk).moved hW.alike).kept ho, fun a n f hf => ?_⟩
  · rcases tb_nst_form hw with ⟨_, _, _, _, rfl⟩ | ⟨_, _, _, _, _, _, rfl⟩
    · exact va_Nw.warmM hW (h2 _ hw)
    · exact va_Nw.warmF hW (h2 _ hw)
  · exact ((h5 a n f hf).moved hW.alike).kept ho
theorem tb_EN.same {u U : State} (h : tb_EN D dA E u) (hvm : u.vm = U.vm) (hh : u.heap = U.heap) : tb_EN D dA E U := by
  have hal : u.vm.Alike U.vm := by rw [hvm]; exact Vm.Alike.refl U.vm
  obtain ⟨h1, h2, h3, h4, h5⟩ := h
  refine ⟨h1.moved hal, fun w hw => ?_, ⟨h3.1.moved hal, h3.2.moved hal⟩, fun k hk => by rw [← hh]; exact (h4 k hk).moved hal, fun a n f hf => ?_⟩
  · rcases tb_nst_form hw with ⟨_, _, _, _, rfl⟩ | ⟨_, _, _, _, _, _, rfl⟩
    · exact va_Nw.same rfl hvm (h2 _ hw)
    · exact va_Nw.same rfl hvm (h2 _ hw)
  · rw [← hh]
    exact (h5 a n f hf).moved hal
theorem tb_Pc.blind {av : List Value} {h : tb_heap} {nx : Nat} : FrameBlind (tb_Pc D dA E av h nx) := by
  intro a U g mk q
  obtain ⟨q1, q2, q3⟩ := q
  exact ⟨q1, q2.same rfl rfl, q3⟩
theorem tb_args_at (vs : List Value) : ∀ (k : Nat), (∀ v ∈ vs, v.category = 1) → (∀ q ∈ lv_args k vs, q.2.category = 1) ∧ ∀ (i : Nat) (v : Value), vs[i]? = some v → (k + i, v) ∈ lv_args k vs := by
  induction vs with
  | nil =>
    intro k _
    exact ⟨(fun q h => by cases h), (fun i v h => by simp at h)⟩
  | cons x xs ih =>
    intro k hc
    have hx : x.category = 1 := hc x List.mem_cons_self
    obtain ⟨i1, i2⟩ := ih (k + 1) (fun v hv => hc v (List.mem_cons_of_mem _ hv))
    have e : lv_args k (x :: xs) = (k, x) :: lv_args (k + 1) xs := by simp [lv_args, hx]
    rw [e]
    refine ⟨fun q hq => ?_, fun i v hi => ?_⟩
    · rcases List.mem_cons.mp hq with rfl | hq
      · exact hx
      · exact i1 q hq
    · cases i with
      | zero =>
        simp at hi
        subst hi
        exact List.mem_cons_self
      | succ i =>
        refine List.mem_cons_of_mem _ ?_
        have := i2 i v (by simpa using hi)
        rwa [show k + 1 + i = k + (i + 1) by omega] at this
theorem tb_sl_len (vs : List Value) (hc : ∀ v ∈ vs, v.category = 1) : (lg_sl vs).length = vs.length := by
  induction vs with
  | nil => rfl
  | cons x xs ih =>
    have hx : x.category = 1 := hc x List.mem_cons_self
    have := ih (fun v hv => hc v (List.mem_cons_of_mem _ hv))
    simp only [lg_sl, List.flatMap_cons, hx] at this ⊢
    simp [this]
theorem tb_LR.entry {t : Nat} {av : List Value} (hc : ∀ v ∈ av, v.category = 1) (hl : av.length ≤ tb_mL t) : tb_LR ((lg_sl av ++ List.replicate (tb_mL t - (lg_sl av).length) Slot.unset).toArray) (tb_mL t) (tb_ent t av) := by
  refine ⟨?_, _, lv_entry av (by rw [tb_sl_len av hc]; exact hl), (tb_args_at av 0 hc).1, fun i v hi h1 => ?_⟩
  · simp [tb_ent]; omega
  · have hlt : i < av.length := by
      rcases Nat.lt_or_ge i av.length with q | q
      · exact q
      · exfalso
        unfold tb_ent at hi
        rw [List.getElem?_append_right q] at hi
        have := List.eq_of_mem_replicate (List.mem_of_getElem? hi)
        rw [this] at h1
        cases h1
    unfold tb_ent at hi
    rw [List.getElem?_append_left hlt] at hi
    have := (tb_args_at av 0 hc).2 i v hi
    rwa [Nat.zero_add] at this
theorem tb_good {t : Nat} (ht : t < tb_nLaw) : GoodIn tb_big (tb_ws t) := by
  intro w hw
  have hm : w ∈ tb_big := by
    rcases List.mem_cons.mp hw with rfl | h
    · exact tb_bg (tb_k1 ht) rfl
    · exact h
  exact ⟨hm, good_of_word (List.mem_filter.mp hm).2⟩
/-- what the run's induction gives -/
def tb_P (l : Launch) (D : va_G) (dA : Nat → ClassId) (E : tb_env) (f : Nat) : Prop :=
  ∀ (d mm pc : Nat) (ls st : List Value) (h : tb_heap) (nx bc bs : Nat) (z : Option Value × tb_heap × Nat), tb_run E f d mm pc ls st h nx bc bs = some z →
  ∀ (p : Program) (e : Env) (R : Room) (s : State) (m : MethodId) (args : Array Value) (below : List Frame) (meth : Method) (c : Code) (Q : State → Prop), tb_Ctx D dA E p R s m args meth c d mm →
  (∀ (pc : Nat) (lsR : Array Slot) (st : List Value) (H : Heap) (locs : List Loc) (cells slots : Nat), tb_re mm pc st = some z.1 → tb_IV D dA E s z.2.1 z.2.2 H locs → cells ≤ R.cells → slots ≤ R.slots → W p l e R s m args below meth c H locs cells slots Q (F0 m pc lsR st)) →
  tb_W1 D dA E p l e R s m args below meth c Q mm (pc, ls, st, h, nx, bc, bs)
theorem tb_met {f d t : Nat} {av : List Value} {h : tb_heap} {nx : Nat} {z : Option Value × tb_heap × Nat} (IH : tb_P l D dA E f) (ht : t < tb_nLaw) (hc : ∀ v ∈ av, v.category = 1) (hl : av.length ≤ tb_mL t) (hr : tb_run E f d t 0 (tb_ent t av) [] h nx (tb_mc t) (tb_ms t) = some z) :
    Met l (tb_y t) (tb_ws t) (tb_rm d t) (tb_Pc D dA E av h nx) (tb_Qc D dA E z.1 z.2.1 z.2.2) (tb_mc t) (tb_ms t) (fun q => E.2.2 ≤ q) := by
  obtain ⟨k1, k2, k3, k4, k5, k6, k7⟩ := tb_k10 t ht
  refine Met.ofW (cc := tb_by t) (maxL := tb_mL t) (ret := tb_rt t) k4 rfl ?_
  intro p e s m args below meth c s₁ B hml hv
  obtain ⟨rfl, hEN, hRH, hsz, hbase⟩ := hv
  have hx := B.exec
  have hb := B.bytes
  have hret := B.returns
  have hlocks := B.notSynchronized
  have hts := atoms_spec (ws := tb_ws t) B.pre
  have hown : s.vm.findClass (tb_cn (tb_ow t)) = some m.cls := findClass_of_methodNamed B.named
  have C0 : tb_Ctx D dA E p (headSpec (tb_ws t) (tb_rm d t)).room s m av.toArray meth c d t := ⟨hx, hb, hml, hown, fun w hw => hts w (List.mem_cons_of_mem _ hw), hlocks, fun hk => by
    have hn := (name_of_methodNamed B.named B.method).1
    rw [hn]
    exact ((tb_k2i t ht).2.2.2 hk).1, hEN, rfl, Nat.le_refl _⟩
  rw [lg_entry_eq]
  refine IH d t 0 (tb_ent t av) [] h nx (tb_mc t) (tb_ms t) z hr p e _ s m av.toArray below meth c _ C0 ?_ _ s.heap [] 0 0 (tb_LR.entry hc hl) ⟨hRH, hsz, hbase, va_S.rf⟩ (by show 0 + tb_mc t ≤ tb_mc t; omega) (by show 0 + tb_ms t ≤ tb_ms t; omega)
  intro pc lsR st H locs cells slots hre hI hc1 hc2
  refine W.widen (k := tb_mc t) (n := tb_ms t) hc1 hc2 ?_
  have hq : ∀ (v : Option Value), v = z.1 → ∀ t' : State, t'.heap = H → s.WarmedH t'.vm → tb_Qc D dA E z.1 z.2.1 z.2.2 av.toArray s (.returned v) t' := by
    intro v hv t' ht' _
    obtain ⟨i1, i2, i3, i4⟩ := hI
    exact ⟨by rw [hv], by rw [ht']; exact i1, by rw [ht']; exact i2, i3, by have := i4.1; omega, fun q h1 h2 => by rw [ht']; exact i4.2.1 q h1 h2⟩
  unfold tb_re at hre
  split at hre
  · rename_i hcd
    split at hre
    · split at hre
      · rename_i hok
        have hv := Option.some.inj hre
        obtain ⟨ty, g1, g2⟩ := tb_rok_ok hok
        exact W.zret hx hb (hret.trans g1) g2 (hq _ hv) hI.2.2.2.2.2 (tb_cd_ok hcd)
      · cases hre
    · cases hre
  · rename_i hcd
    split at hre
    · split at hre
      · rename_i hok
        have hv := Option.some.inj hre
        have hn : tb_rt t = none := by simpa using hok
        exact W.vret hx hb (hret.trans hn) (hq _ hv) hI.2.2.2.2.2 (tb_cd_ok hcd)
      · cases hre
    · cases hre
  · cases hre
theorem tb_as_ok {t : Nat} {st av r : List Value} (h : tb_as t st = some (av, r)) : (tb_kd t = 1 ∧ av.length = tb_na t ∧ st = av.reverse ++ r) ∨ (tb_kd t ≠ 1 ∧ ∃ (b : Nat) (as : List Value), av = .ref b :: as ∧ as.length = tb_na t ∧ st = as.reverse ++ .ref b :: r) := by
  unfold tb_as at h
  split at h
  · rename_i hk
    split at h
    · rename_i hl
      cases h
      refine Or.inl ⟨hk, by simp; omega, by simp⟩
    · cases h
  · rename_i hk
    split at h
    · rename_i b r' hd
      cases h
      have hlen : tb_na t < st.length := by
        rcases Nat.lt_or_ge (tb_na t) st.length with q | q
        · exact q
        · rw [List.drop_eq_nil_of_le q] at hd; cases hd
      refine Or.inr ⟨hk, b, _, rfl, by simp; omega, ?_⟩
      rw [List.reverse_reverse, ← hd, List.take_append_drop]
    · cases h
theorem tb_call {f d mm pc t : Nat} {nest : Bool} {ls st av r : List Value} {h : tb_heap} {nx bc bs : Nat} {z : Option Value × tb_heap × Nat} {p : Program} {e : Env} {R : Room} {s : State} {m : MethodId} {args : Array Value} {below : List Frame} {meth : Method} {c : Code} {Q : State → Prop}
    (IH : tb_P l D dA E f) (C0 : tb_Ctx D dA E p R s m args meth c d mm) (hiv : tb_iv mm pc = some (t, nest)) (has : tb_as t st = some (av, r)) (hck : tb_ck d t av r h bc bs = true) (hr : tb_run E f (d - 1) t 0 (tb_ent t av) [] h nx (tb_mc t) (tb_ms t) = some z)
    (k : tb_W1 D dA E p l e R s m args below meth c Q mm (pc + 3, ls, z.1.toList ++ r, z.2.1, z.2.2, bc - tb_mc t, bs - tb_ms t)) : tb_W1 D dA E p l e R s m args below meth c Q mm (pc, ls, st, h, nx, bc, bs) := by
  intro lsR H locs cells slots hL hI h1 h2
  dsimp only at hL hI h1 h2 ⊢
  have hsz := hL.size
  obtain ⟨hx, hb, hml, hown, hts, hlk0, hin, hE, hR1, hR2⟩ := id C0
  obtain ⟨i1, i2, i3, i4⟩ := id hI
  simp only [tb_ck, Bool.and_eq_true, decide_eq_true_eq] at hck
  obtain ⟨⟨⟨⟨⟨⟨c1, c2⟩, c3⟩, c4⟩, c5⟩, c6⟩, c7⟩ := hck
  have c3 : ∀ v ∈ av, v.category = 1 := fun v hv => by have := List.all_eq_true.mp c3 v hv; simpa using this
  have c2 : (r.map fun v => v.category).sum ≤ 8 := by simpa [tb_sm] using c2
  -- the target, its link
  have tgt : ∃ (op : Instr) (ix : Nat), decode (tb_by mm) pc = .ok (op, 3) ∧ tb_lk (tb_ow mm) ix = some (t, nest) ∧ t < 1000 ∧ ((op = .invokevirtual ix ∧ tb_kd t = 0) ∨ (op = .invokestatic ix ∧ tb_kd t = 1) ∨ (op = .invokespecial ix ∧ tb_kd t = 2)) := by
    unfold tb_iv at hiv
    split at hiv
    · rename_i ix hcd
      split at hiv
      · rename_i t' b' hlk
        split at hiv
        · rename_i hc; cases hiv; exact ⟨_, ix, tb_cd_ok hcd, hlk, hc.1, Or.inl ⟨rfl, hc.2⟩⟩
        · cases hiv
      · cases hiv
    · rename_i ix hcd
      split at hiv
      · rename_i t' b' hlk
        split at hiv
        · rename_i hc; cases hiv; exact ⟨_, ix, tb_cd_ok hcd, hlk, hc.1, Or.inr (Or.inl ⟨rfl, hc.2⟩)⟩
        · cases hiv
      · cases hiv
    · rename_i ix hcd
      split at hiv
      · rename_i t' b' hlk
        split at hiv
        · rename_i hc; cases hiv; exact ⟨_, ix, tb_cd_ok hcd, hlk, hc.1, Or.inr (Or.inr ⟨rfl, hc.2⟩)⟩
        · cases hiv
      · cases hiv
    · cases hiv
  obtain ⟨op, ix, hdg, hlk, ht1000, hop⟩ := tgt
  obtain ⟨j0, hj0⟩ := tb_lk_ok hlk
  have ht : t < tb_nLaw := by
    cases nest with
    | false => exact ((tb_k4 _ hj0).1 rfl ht1000).2
    | true => exact (tb_k4 _ hj0).2 rfl
  obtain ⟨k1, k2, k3, k4, k5, k6, k7⟩ := tb_k10 t ht
  have hM := tb_met IH ht c3 c4 hr
  have hini : (Cond.initialized (tb_y t).cls).before args s = true := hts _ (tb_bg (tb_k3 (tb_ow t) (by omega)) rfl)
  have hroom : (tb_rm (d - 1) t).frames + 1 ≤ R.frames ∧ 8 + (tb_mL t + 11) + (tb_rm (d - 1) t).locals ≤ R.locals := by
    constructor
    · show d - 1 + 1 ≤ _; omega
    · show 8 + (tb_mL t + 11) + 38 * (d - 1) ≤ _; omega
  have hPc : ∀ U : State, U.heap = H → s.WarmedH U.vm → tb_Pc D dA E av h nx av.toArray U := by
    intro U hU hW
    refine ⟨rfl, hE.warm hW (by rw [hU]; exact i4.1) (fun q g1 g2 => by rw [hU]; exact i4.2.1 q g1 g2), by rw [hU]; exact i1, by rw [hU]; exact i2, i3⟩
  have S : CallFix p m c (tb_by mm) (tb_mL mm) s args tb_big (tb_cn (tb_ow mm)) := ⟨hx, hb, hml, hown, hts⟩
  have fin : va_Run p l e R s m args below meth c H locs cells slots (tb_mc t) (tb_ms t) (F0 m pc lsR st) r (tb_Qc D dA E z.1 z.2.1 z.2.2 av.toArray) (fun q => E.2.2 ≤ q) → W p l e R s m args below meth c H locs cells slots Q (F0 m pc lsR st) := by
    intro hrun T hT X
    obtain ⟨v, st₀, t', T', L, h0, X', hL2, e1, e2, hq, stp⟩ := hrun T hT X
    obtain ⟨q1, q2, q3, q4, q5, q6⟩ := hq
    have hv : v = z.1 := Outcome.returned.inj q1
    subst hv
    have hI' : tb_IV D dA E s z.2.1 z.2.2 T'.heap (locs ++ L) := by
      refine ⟨by rw [e1]; exact q2, by rw [e1]; exact q3, q4, ⟨?_, fun q g1 g2 => ?_, fun q hq => ?_⟩⟩
      · rw [e1, q3]; have := i4.1; rw [h0] at q5; omega
      · have hlt : q < H.size := Nat.lt_of_lt_of_le g1 i4.1
        rw [e1, q6 q (by rw [h0]; exact hlt) g2, h0]
        exact i4.2.1 q g1 g2
      · rcases List.mem_append.mp hq with g | g
        · exact i4.2.2 q g
        · exact hL2 q g
    obtain ⟨t2, a1, b1⟩ := k lsR T'.heap (locs ++ L) (cells + tb_mc t) (slots + tb_ms t) hL hI' (by dsimp only; omega) (by dsimp only; omega) T' rfl X'
    exact ⟨t2, stp t2 a1, b1⟩
  refine fin ?_
  have hf : cells + tb_mc t ≤ R.cells ∧ slots + tb_ms t ≤ R.slots := ⟨by omega, by omega⟩
  rcases tb_as_ok has with ⟨hk, hlen, rfl⟩ | ⟨hk, b, as, rfl, hlen, rfl⟩
  · -- a static method
    have hop : op = .invokestatic ix := by
      rcases hop with ⟨_, q⟩ | ⟨q, _⟩ | ⟨_, q⟩
      · omega
      · exact q
      · omega
    subst hop
    have hst : (Cond.static (tb_y t)).before args s = true := hts _ (tb_bg (List.mem_of_getElem? ((tb_k2i t ht).1 hk)) rfl)
    cases nest with
    | false =>
      have hlink : (Cond.methodLink (tb_cn (tb_ow mm)) ix (tb_y t)).before args s = true := hts _ (tb_bg (List.mem_of_getElem? ((tb_k4 _ hj0).1 rfl ht1000).1) rfl)
      exact va_runS S hM ⟨callB_of (tb_na t) hts (tb_good ht) rfl rfl rfl hini hlink ⟨k5, k6, k3⟩ hroom, hst⟩ ⟨tb_Pc.blind, hPc⟩ rfl hlen hsz rfl (lv_room (pc := pc) (ls := lsR) (rest := av.reverse ++ r) c2) hdg hf
    | true =>
      have hlink : va_Nw (.methodLinkNest (tb_cn (tb_ow mm)) ix (tb_y t) "TiltBoards") s := hE.2.1 _ (List.mem_append_left _ (List.mem_map.mpr ⟨_, List.mem_filter.mpr ⟨hj0, rfl⟩, rfl⟩))
      exact va_runSN S hM ⟨va_cnB (tb_na t) hts (tb_good ht) rfl rfl rfl hlink hini ⟨k5, k6, k3⟩ hroom, hst, trivial⟩ ⟨tb_Pc.blind, hPc⟩ rfl hlen hsz rfl (lv_room (pc := pc) (ls := lsR) (rest := av.reverse ++ r) c2) hdg hf
  · have hinst : (Cond.instanceMethod (tb_y t)).before args s = true := hts _ (tb_bg (List.mem_of_getElem? ((tb_k2i t ht).2.1 hk)) rfl)
    rcases hop with ⟨rfl, hk0⟩ | ⟨_, q⟩ | ⟨rfl, hk2⟩
    · -- a method of an object
      have hsel : (Cond.selects (tb_cn (tb_ow t)) (tb_y t) (tb_y t)).before args s = true := hts _ (tb_bg (List.mem_of_getElem? ((tb_k2i t ht).2.2.1 hk0)) rfl)
      have hrec : ∃ cellB : Cell, H[b]? = some cellB ∧ cellB.vm.isStatics = false ∧ s.vm.findClass (tb_cn (tb_ow t)) = some cellB.cls := by
        simp only [tb_rv, hk0, BEq.rfl, Bool.not_true, Bool.false_or] at c5
        split at c5
        · rename_i ci fs hb0
          have e0 : ci = tb_ow t := by simpa using c5
          subst e0
          exact va_recv hE.1 (i1.at hb0) (ci := tb_ow t) (q0 := 0) (tb_cls_get (k7.2 hk0)) rfl
        · cases c5
      cases nest with
      | false =>
        have hlink : (Cond.methodLink (tb_cn (tb_ow mm)) ix (tb_y t)).before args s = true := hts _ (tb_bg (List.mem_of_getElem? ((tb_k4 _ hj0).1 rfl ht1000).1) rfl)
        exact va_runV S hM ⟨callB_of (tb_na t) hts (tb_good ht) rfl rfl rfl hini hlink ⟨k5, k6, k3⟩ hroom, hinst, hsel⟩ ⟨tb_Pc.blind, hrec, hPc⟩ rfl hlen hsz rfl (lv_room (pc := pc) (ls := lsR) (rest := as.reverse ++ .ref b :: r) c2) hdg hf
      | true =>
        have hlink : va_Nw (.methodLinkNest (tb_cn (tb_ow mm)) ix (tb_y t) "TiltBoards") s := hE.2.1 _ (List.mem_append_left _ (List.mem_map.mpr ⟨_, List.mem_filter.mpr ⟨hj0, rfl⟩, rfl⟩))
        exact va_runVN S hM ⟨va_cnB (tb_na t) hts (tb_good ht) rfl rfl rfl hlink hini ⟨k5, k6, k3⟩ hroom, hinst, hsel⟩ ⟨tb_Pc.blind, hrec, hPc⟩ rfl hlen hsz rfl (lv_room (pc := pc) (ls := lsR) (rest := as.reverse ++ .ref b :: r) c2) hdg hf
    · exact absurd q hk
    · -- a constructor
      obtain ⟨hn1, hn2⟩ := (tb_k2i t ht).2.2.2 hk2
      have hg := tb_good ht
      have hw : tb_ws t = Cond.code (tb_y t) (tb_by t) (tb_mL t) none :: tb_big := by
        unfold tb_ws tb_cw; rw [hn2]
      cases nest with
      | false =>
        have hlink : (Cond.methodLink (tb_cn (tb_ow mm)) ix (tb_y t)).before args s = true := hts _ (tb_bg (List.mem_of_getElem? ((tb_k4 _ hj0).1 rfl ht1000).1) rfl)
        exact va_runI S hM ⟨callB_of (tb_na t) hts hg hw rfl rfl hini hlink ⟨k5, k6, k3⟩ hroom, hn1, hinst⟩ ⟨tb_Pc.blind, hPc⟩ rfl hlen hsz rfl (lv_room (pc := pc) (ls := lsR) (rest := as.reverse ++ .ref b :: r) c2) hdg hf
      | true =>
        have hlink : va_Nw (.methodLinkNest (tb_cn (tb_ow mm)) ix (tb_y t) "TiltBoards") s := hE.2.1 _ (List.mem_append_left _ (List.mem_map.mpr ⟨_, List.mem_filter.mpr ⟨hj0, rfl⟩, rfl⟩))
        exact va_runIN S hM ⟨va_cnB (tb_na t) hts hg hw rfl rfl hlink hini ⟨k5, k6, k3⟩ hroom, hn1, hinst⟩ ⟨tb_Pc.blind, hPc⟩ rfl hlen hsz rfl (lv_room (pc := pc) (ls := lsR) (rest := as.reverse ++ .ref b :: r) c2) hdg hf
/-- THE SIMULATION -/
theorem tb_simRun (f : Nat) : tb_P l D dA E f := by
  induction f with
  | zero =>
    intro d mm pc ls st h nx bc bs z hr
    cases hr
  | succ f IH =>
    intro d mm pc ls st h nx bc bs z hr p e R s m args below meth c Q C0 hfin
    unfold tb_run at hr
    split at hr
    · rename_i v hre
      have e1 : (v, h, nx) = z := Option.some.inj hr
      subst e1
      intro lsR H locs cells slots hL hI h1 h2
      exact hfin pc lsR st H locs cells slots hre hI (by dsimp only at h1; omega) (by dsimp only at h2; omega)
    · split at hr
      · rename_i q hiv
        split at hr
        · rename_i w has
          split at hr
          · rename_i hck
            split at hr
            · rename_i z1 hr1
              exact tb_call (t := q.1) (nest := q.2) (av := w.1) (r := w.2) IH C0 hiv has hck hr1 (IH d mm _ _ _ _ _ _ _ z hr p e R s m args below meth c Q C0 hfin)
            · cases hr
          · cases hr
        · cases hr
      · split at hr
        · rename_i z1 hs
          exact tb_sim C0 hs (IH d mm _ _ _ _ _ _ _ z hr p e R s m args below meth c Q C0 hfin)
        · cases hr
end TB3
