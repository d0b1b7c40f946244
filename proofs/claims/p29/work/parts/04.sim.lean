/-! WHAT THE MINI MACHINE DOES, THE REAL ONE DOES: one instruction -/
def tb_tr (dA : Nat → ClassId) (x : tb_cell) : va_E := match x with
  | .inl o => .inr o
  | .inr (.inl q) => .inl (dA q.1, q.2.1, .inl q.2.2)
  | .inr (.inr q) => .inl (dA (10 + q.1), q.2.1, .inr (.inr (.inr (.inr q.2.2))))
def tb_wf (x : tb_cell) : Prop := match x with
  | .inl _ => True
  | .inr (.inl q) => q.1 < 3 ∧ (q.1 = 1 → ∀ j, q.2.2 j = 0 ∨ q.2.2 j = 1)
  | .inr (.inr q) => q.1 = 0 ∨ q.1 = 4
def tb_RH (D : va_G) (dA : Nat → ClassId) (base : Nat) (h : tb_heap) (H : Heap) : Prop := ∀ a x, h a = some x → base ≤ a ∧ va_at D tb_cls (a, tb_tr dA x) H ∧ tb_wf x
def tb_aty : Nat → FieldType := fun k => match k with
  | 0 => .int
  | 1 => .boolean
  | _ => .char
def tb_tys (dA : Nat → ClassId) : List (ClassId × FieldType) := [(dA 0, .int), (dA 1, .boolean), (dA 2, .char), (dA 10, .object "TiltBoards$Board"), (dA 14, .object "TiltBoards$State")]
def tb_EN (D : va_G) (dA : Nat → ClassId) (E : tb_env) (U : State) : Prop := va_K D tb_cls (tb_tys dA) U ∧ (∀ w ∈ tb_nst, va_Nw w U) ∧ (va_AO "TiltBoards$Board" U ∧ va_AO "TiltBoards$State" U) ∧ (∀ k, k < 4 → va_Z "TiltBoards" (tb_sn k) "[I" (.ref (E.1 k)) (fun q => E.2.2 ≤ q) U U.heap) ∧ (∀ a n f, E.2.1 a = some (n, f) → va_T .int a n (fun j => .int (f j)) (fun q => E.2.2 ≤ q) U U.heap)
def tb_IV (D : va_G) (dA : Nat → ClassId) (E : tb_env) (s : State) (h : tb_heap) (nx : Nat) (H : Heap) (locs : List Loc) : Prop := tb_RH D dA E.2.2 h H ∧ H.size = nx ∧ E.2.2 ≤ nx ∧ va_S (fun q => E.2.2 ≤ q) s.heap H locs
def tb_LR (lsR : Array Slot) (nL : Nat) (ls : List Value) : Prop := ls.length = nL ∧ ∃ lv, lv_has lsR nL lv ∧ (∀ q ∈ lv, q.2.category = 1) ∧ ∀ i v, ls[i]? = some v → v.category = 1 → (i, v) ∈ lv
theorem tb_LR.get {lsR : Array Slot} {nL : Nat} {ls : List Value} {i : Nat} {v : Value} (h : tb_LR lsR nL ls) (hi : ls[i]? = some v) (hc : v.category = 1) : lsR[i]? = some (.val v) := by
  obtain ⟨-, lv, h1, -, h3⟩ := h
  exact h1.2.2 _ (h3 i v hi hc)
theorem tb_LR.size {lsR : Array Slot} {nL : Nat} {ls : List Value} (h : tb_LR lsR nL ls) : lsR.size = nL := by
  obtain ⟨-, lv, h1, -⟩ := h
  exact h1.1
theorem tb_LR.put {lsR : Array Slot} {nL : Nat} {ls : List Value} (h : tb_LR lsR nL ls) : ∃ lv, lv_has lsR nL lv ∧ (∀ i v, ls[i]? = some v → v.category = 1 → ∃ k : Nat, lv[k]? = some (i, v)) ∧ ∀ (i : Nat) (v : Value), i < nL → v.category = 1 → ∀ ls' : Array Slot, lv_has ls' nL ((i, v) :: lv.filter (fun q => !(q.1 == i) && !(q.1 + 1 == i && q.2.category == 2))) → tb_LR ls' nL (ls.set i v) := by
  obtain ⟨h0, lv, h1, h2, h3⟩ := h
  refine ⟨lv, h1, fun i v hi hc => List.getElem?_of_mem (h3 i v hi hc), fun i v hi hc ls' h4 => ⟨by rw [List.length_set]; exact h0, _, h4, fun q hq => ?_, fun j w hj hw => ?_⟩⟩
  · rcases List.mem_cons.mp hq with rfl | hq
    · exact hc
    · exact h2 q (List.mem_filter.mp hq).1
  · by_cases hji : j = i
    · subst hji
      rw [List.getElem?_set_self (by omega)] at hj
      cases hj
      exact List.mem_cons_self
    · rw [List.getElem?_set_ne (Ne.symm hji)] at hj
      refine List.mem_cons_of_mem _ (List.mem_filter.mpr ⟨h3 j w hj hw, ?_⟩)
      simp [hji, hw]
theorem tb_cls_get {k : Nat} (hk : k < 6) : tb_cls[k]? = some (tb_cn k, tb_F k, tb_nF k) := by
  simp [tb_cls, hk]
theorem tb_cls_lt {k : Nat} {r : vw_C} (h : tb_cls[k]? = some r) : k < 6 := by
  have := (List.getElem?_eq_some_iff.mp h).1
  simpa [tb_cls] using this
theorem tb_bg {w : Cond} (h : w ∈ lw_tbl) (g : goodWord w = true) : w ∈ tb_big := List.mem_filter.mpr ⟨h, g⟩
theorem tb_bg_u {k : Nat} (hk : k < 6) : ∀ w ∈ u_ws (tb_cn k) (tb_F k) (tb_nF k), w ∈ tb_big := by
  intro w hw
  refine tb_bg ((tb_k8 k hk).1 w hw) ?_
  obtain ⟨j, -, rfl⟩ := List.mem_map.mp hw
  unfold u_lay
  split <;> rfl
theorem tb_cd_ok {m pc : Nat} {i : Instr} {n : Nat} (h : tb_cd m pc = some (i, n)) : decode (tb_by m) pc = .ok (i, n) := by
  unfold tb_cd at h
  split at h
  · rename_i r hr
    rw [hr, Option.some.inj h]
  · cases h
theorem tb_tg_ok {pc t : Nat} {off : Int} (h : tb_tg pc off = some t) : (pc : Int) + off = (t : Int) := by
  unfold tb_tg at h
  split at h
  · rename_i hp
    have := Option.some.inj h
    omega
  · cases h
theorem tb_fd {α : Type} {l : List (Nat × Nat × α)} {c ix : Nat} {x : α} (h : (l.find? (fun q => q.1 == c && q.2.1 == ix)).map (fun q => q.2.2) = some x) : (c, ix, x) ∈ l := by
  obtain ⟨q, h1, h2⟩ := Option.map_eq_some_iff.mp h
  have h3 := List.find?_some h1
  have h4 := List.mem_of_find?_eq_some h1
  simp only [Bool.and_eq_true, beq_iff_eq] at h3
  obtain ⟨a, b, y⟩ := q
  simp only at h2 h3
  rw [← h3.1, ← h3.2, ← h2]
  exact h4
theorem tb_lk_ok {c ix : Nat} {x : Nat × Bool} (h : tb_lk c ix = some x) : ∃ i, (c, ix, x, i) ∈ tb_lkL := by
  unfold tb_lk at h
  obtain ⟨q, h1, h2⟩ := Option.map_eq_some_iff.mp h
  have h3 := List.find?_some h1
  have h4 := List.mem_of_find?_eq_some h1
  simp only [Bool.and_eq_true, beq_iff_eq] at h3
  obtain ⟨a, b, y, j⟩ := q
  simp only at h2 h3
  refine ⟨j, ?_⟩
  rw [← h3.1, ← h3.2, ← h2]
  exact h4
theorem tb_RH.at {D : va_G} {dA : Nat → ClassId} {base : Nat} {h : tb_heap} {H : Heap} (hR : tb_RH D dA base h H) {a : Nat} {x : tb_cell} (hx : h a = some x) : va_P D tb_cls [(a, tb_tr dA x)] H := by
  intro k q hk
  have hz : k < 1 := (List.getElem?_eq_some_iff.mp hk).1
  rw [show k = 0 by omega] at hk
  cases hk
  exact (hR a x hx).2.1
theorem tb_RH.up {D : va_G} {dA : Nat → ClassId} {base : Nat} {h : tb_heap} {H H' : Heap} (hR : tb_RH D dA base h H) {a : Nat} {x' : tb_cell} (hb : base ≤ a) (hat : va_at D tb_cls (a, tb_tr dA x') H') (hw : tb_wf x') (ho : ∀ (q : Nat) (y : tb_cell), h q = some y → q ≠ a → H'[q]? = H[q]?) : tb_RH D dA base (tb_up h a x') H' := by
  intro q y hy
  unfold tb_up at hy
  split at hy
  · rename_i e
    cases hy
    subst e
    exact ⟨hb, hat, hw⟩
  · rename_i e
    obtain ⟨h1, h2, h3⟩ := hR q y hy
    exact ⟨h1, h2.kept (ho q y hy e), h3⟩
theorem tb_IV.put {D : va_G} {dA : Nat → ClassId} {E : tb_env} {s : State} {h : tb_heap} {nx : Nat} {H H' : Heap} {locs : List Loc} (hI : tb_IV D dA E s h nx H locs) {a j : Nat} {x x' : tb_cell} (hx : h a = some x) (hat : va_at D tb_cls (a, tb_tr dA x') H') (hw : tb_wf x') (hz : H'.size = H.size) (ho : ∀ q : Nat, q ≠ a → H'[q]? = H[q]?) : tb_IV D dA E s (tb_up h a x') nx H' (locs ++ [⟨a, j⟩]) := by
  obtain ⟨h1, h2, h3, h4⟩ := hI
  have hb := (h1 a x hx).1
  exact ⟨h1.up hb hat hw (fun q _ _ hq => ho q hq), hz.trans h2, h3, h4.put hz ho hb⟩
theorem tb_IV.new {D : va_G} {dA : Nat → ClassId} {E : tb_env} {s : State} {h : tb_heap} {nx : Nat} {H H' : Heap} {locs : List Loc} (hI : tb_IV D dA E s h nx H locs) {x' : tb_cell} (hat : va_at D tb_cls (nx, tb_tr dA x') H') (hw : tb_wf x') (hz : H'.size = nx + 1) (ho : ∀ q : Nat, q < nx → H'[q]? = H[q]?) : tb_IV D dA E s (tb_up h nx x') (nx + 1) H' locs := by
  obtain ⟨h1, h2, h3, h4⟩ := hI
  refine ⟨h1.up h3 hat hw (fun q y hy _ => ho q (by rw [← h2]; exact ((h1 q y hy).2.1).lt)), hz, by omega, by have := h4.1; omega, fun q hq hn => ?_, h4.2.2⟩
  rw [ho q (by have := h4.1; omega)]
  exact h4.2.1 q hq hn
theorem tb_vok_ok {ty : FieldType} {v : Value} (h : tb_vok ty v = true) : narrow ty v = v ∧ fits ty v = true := by
  cases ty <;> cases v <;> simp only [tb_vok, Bool.false_eq_true] at h <;> first | exact ⟨rfl, rfl⟩ | skip
  · rename_i x
    simp only [Bool.and_eq_true, decide_eq_true_eq] at h
    obtain ⟨j, hj, rfl⟩ := nI_of (Int32.not_lt.mpr h.1)
    refine pk_charN ?_
    have := (nI_ltI hj (by decide : 65536 < 2 ^ 31)).mp h.2
    exact this
  · rename_i x
    simp only [Bool.or_eq_true, beq_iff_eq] at h
    rcases h with rfl | rfl <;> exact ⟨rfl, rfl⟩
theorem tb_rok_ok {r : Option FieldType} {v : Int32} (h : tb_rok r v = true) : ∃ ty, r = some ty ∧ narrow ty (.int v) = .int v := by
  unfold tb_rok at h
  split at h
  · exact ⟨_, rfl, rfl⟩
  · simp only [Bool.or_eq_true, beq_iff_eq] at h
    rcases h with rfl | rfl <;> exact ⟨_, rfl, rfl⟩
  · cases h
