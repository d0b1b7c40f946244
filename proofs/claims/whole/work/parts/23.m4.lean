/-! THE REFERENCE: copies, sums, acts -/
def sp_acc (f : Nat → Nat) : Nat → Nat
  | 0 => 0
  | n + 1 => sp_acc f n + f n
theorem sp_hp_le {s : Nat → Nat} (hI : sp_I s) {b j : Nat} (hb : b < 5) (hj : j < 32) : s (48 + 32 * b + j) ≤ 99 := by
  have := sp_heap_le hI hb (show j / 4 < 8 by omega) (show j % 4 < 4 by omega)
  rwa [show 48 + 32 * b + 4 * (j / 4) + j % 4 = 48 + 32 * b + j by omega] at this
theorem tb_isA.st0 {h : tb_heap} {a ty n : Nat} {F : Nat → Int32} (hA : tb_isA h a ty n F) {j : Nat} {x : Int32} (hj : j < n) (hn : n < 2 ^ 31) {K : tb_heap → Prop} (hK : ∀ h', tb_isA h' a ty n (fun i => if i = j then x else F i) → (∀ q, q ≠ a → h' q = h q) → K h') : tb_wF (tb_stv h ty a (nI j) x) K := hA.st hj hn hK
/-- the model's object -/
def tb_Mo (h : tb_heap) (m : Nat) (kp kn le sa sb po wr sp : Int32) : Prop := h m = some (.inl (6, [.ref (m + 1), .ref (m + 2), .ref (m + 3), .ref (m + 4), .int kp, .ref (m + 5), .int kn, .ref (m + 6), .int le, .int sa, .int sb, .ref (m + 7), .int po, .int wr, .ref (m + 8), .int sp]))
section M4
variable {E : tb_env} {d : Nat} {h : tb_heap} {nx : Nat} {Q : Option Value → tb_heap → Nat → Prop}
theorem tb_Mo.g {m : Nat} {kp kn le sa sb po wr sp : Int32} (h0 : tb_Mo h m kp kn le sa sb po wr sp) : tb_gf h m 6 0 = some (.ref (m + 1)) ∧ tb_gf h m 6 1 = some (.ref (m + 2)) ∧ tb_gf h m 6 2 = some (.ref (m + 3)) ∧ tb_gf h m 6 3 = some (.ref (m + 4)) ∧ tb_gf h m 6 4 = some (.int kp) ∧ tb_gf h m 6 5 = some (.ref (m + 5)) ∧ tb_gf h m 6 6 = some (.int kn) ∧ tb_gf h m 6 7 = some (.ref (m + 6)) ∧ tb_gf h m 6 8 = some (.int le) ∧ tb_gf h m 6 9 = some (.int sa) ∧ tb_gf h m 6 10 = some (.int sb) ∧ tb_gf h m 6 11 = some (.ref (m + 7)) ∧ tb_gf h m 6 12 = some (.int po) ∧ tb_gf h m 6 13 = some (.int wr) ∧ tb_gf h m 6 14 = some (.ref (m + 8)) ∧ tb_gf h m 6 15 = some (.int sp) := by
  unfold tb_Mo at h0
  simp [tb_gf, h0]
theorem tb_Mo.O {m : Nat} {kp kn le sa sb po wr sp : Int32} (h0 : tb_Mo h m kp kn le sa sb po wr sp) : tb_isO h m 6 := ⟨_, h0⟩
theorem tb_Mo.S {m : Nat} {kp kn le sa sb po wr sp : Int32} {s : Nat → Nat} (h0 : tb_Mo h m kp kn le sa sb po wr sp) (hA : tb_isA h (m + 1) 0 368 (fun j => nI (s j))) : tb_MS h m s := ⟨⟨_, h0, rfl, rfl⟩, hA⟩
theorem m_looks_l {m : Nat} {g : Nat → Int32} {ob : Option tb_cell} (ho : ∀ h' : tb_heap, h' m = ob → tb_gf h' m 6 2 = some (.ref (m + 3)) ∧ tb_gf h' m 6 0 = some (.ref (m + 1))) (n : Nat) : ∀ (i : Nat) (h : tb_heap) (F : Nat → Int32), i + n = 368 → h m = ob → tb_isA h (m + 1) 0 368 g → tb_isA h (m + 3) 0 368 F → (∀ j, j < i → F j = g j) → (∀ h', tb_isA h' (m + 3) 0 368 g → (∀ q, q ≠ m + 3 → h' q = h q) → Q none h' nx) →
    tb_wp E d 97 2 [.ref m, .int (nI i)] [] h nx 0 0 Q := by
  induction n with
  | zero =>
    intro i h F hi hm hA hB hF hQ
    simp (disch := first | assumption | omega | exact tb_sm0 | exact tb_sm1 _ | exact tb_sm2 _ _ | exact tb_sm3 _ _ _ | exact tb_sm4 _ _ _ _ | exact Or.inl rfl | exact Or.inr rfl | fail) only [r97_2, r97_3, r97_6, nI_add, pk_mul, e_sub, e_div, tb_nmod, e_dec, e_le, e_lt, e_eq, e_eq0, e_lt0, e_0le, e_0lt, e_le0, if_true, if_false, not_true_eq_false, not_false_eq_true, ite_true, ite_false, Nat.reduceAdd, Nat.reduceMul, Nat.reduceLeDiff, Nat.reduceLT, Nat.reduceEqDiff, Nat.reduceSub, ↓reduceIte, Nat.reduceDiv, Nat.reduceMod]
    rw [if_pos (by omega)]
    simp (disch := first | assumption | omega | exact tb_sm0 | exact tb_sm1 _ | exact tb_sm2 _ _ | exact tb_sm3 _ _ _ | exact tb_sm4 _ _ _ _ | exact Or.inl rfl | exact Or.inr rfl | fail) only [r97_27]
    exact hQ h (hB.to rfl (fun j hj => hF j (by omega))) (fun _ _ => rfl)
  | succ n ih =>
    intro i h F hi hm hA hB hF hQ
    obtain ⟨g1, g2⟩ := ho h hm
    have ld : ∀ {j : Nat} (hj : j < 368) {K : Int32 → Prop}, tb_wF (tb_ld E h 0 (m + 1) (nI j)) K = K (g j) := fun hj => hA.ld hj (by decide)
    simp (disch := first | assumption | omega | exact tb_sm0 | exact tb_sm1 _ | exact tb_sm2 _ _ | exact tb_sm3 _ _ _ | exact tb_sm4 _ _ _ _ | exact Or.inl rfl | exact Or.inr rfl | fail) only [r97_2, r97_3, r97_6, nI_add, pk_mul, e_sub, e_div, tb_nmod, e_dec, e_le, e_lt, e_eq, e_eq0, e_lt0, e_0le, e_0lt, e_le0, if_true, if_false, not_true_eq_false, not_false_eq_true, ite_true, ite_false, Nat.reduceAdd, Nat.reduceMul, Nat.reduceLeDiff, Nat.reduceLT, Nat.reduceEqDiff, Nat.reduceSub, ↓reduceIte, Nat.reduceDiv, Nat.reduceMod]
    rw [if_neg (by omega)]
    simp (disch := first | assumption | omega | exact tb_sm0 | exact tb_sm1 _ | exact tb_sm2 _ _ | exact tb_sm3 _ _ _ | exact tb_sm4 _ _ _ _ | exact Or.inl rfl | exact Or.inr rfl | fail) only [r97_0, r97_1, r97_3, r97_6, r97_9, r97_10, r97_13, r97_14, r97_15, r97_18, r97_19, r97_20, r97_21, r97_24, r97_27, g1, g2, ld, tb_vl_some, tb_vl_none, tb_wF_some, nI_add, pk_mul, e_sub, e_div, tb_nmod, e_dec, e_le, e_lt, e_eq, e_eq0, e_lt0, e_0le, e_0lt, e_le0, if_true, if_false, not_true_eq_false, not_false_eq_true, ite_true, ite_false, Nat.reduceAdd, Nat.reduceMul, Nat.reduceLeDiff, Nat.reduceLT, Nat.reduceEqDiff, Nat.reduceSub, ↓reduceIte, Nat.reduceDiv, Nat.reduceMod]
    refine hB.st (by omega) (by decide) (fun h2 hB2 hF2 => ?_)
    refine ih (i + 1) h2 _ (by omega) (by rw [hF2 _ (by omega), hm]) (hA.to (hF2 _ (by omega)) (fun _ _ => rfl)) hB2 (fun j hj => ?_) (fun h3 h31 h32 => hQ h3 h31 (fun q hq => by rw [h32 q hq, hF2 q hq]))
    unfold upd
    by_cases c : j = i
    · rw [if_pos c, c]
    · rw [if_neg c]; exact hF j (by omega)
theorem m_looks {m : Nat} {g F : Nat → Int32} {kp kn le sa sb po wr sp : Int32} (h0 : tb_Mo h m kp kn le sa sb po wr sp) (hA : tb_isA h (m + 1) 0 368 g) (hB : tb_isA h (m + 3) 0 368 F) (hQ : ∀ h', tb_isA h' (m + 3) 0 368 g → (∀ q, q ≠ m + 3 → h' q = h q) → Q none h' nx) :
    tb_wp E d 97 0 [.ref m, .long 0] [] h nx 0 0 Q := by
  simp (disch := first | assumption | omega | exact tb_sm0 | exact tb_sm1 _ | exact tb_sm2 _ _ | exact tb_sm3 _ _ _ | exact tb_sm4 _ _ _ _ | exact Or.inl rfl | exact Or.inr rfl | fail) only [r97_0, r97_1]
  refine m_looks_l (ob := h m) (fun h' hh => ?_) 368 0 h F rfl rfl hA hB (fun j hj => by omega) hQ
  have h0' : tb_Mo h' m kp kn le sa sb po wr sp := by unfold tb_Mo; rw [hh]; exact h0
  have g := h0'.g
  simp only [g, and_self]
theorem m_putAside_l {m : Nat} {g : Nat → Int32} {ob : Option tb_cell} (ho : ∀ h' : tb_heap, h' m = ob → tb_gf h' m 6 1 = some (.ref (m + 2)) ∧ tb_gf h' m 6 0 = some (.ref (m + 1))) (n : Nat) : ∀ (i : Nat) (h : tb_heap) (F : Nat → Int32), i + n = 368 → h m = ob → tb_isA h (m + 1) 0 368 g → tb_isA h (m + 2) 0 368 F → (∀ j, j < i → F j = g j) → (∀ h', tb_isA h' (m + 2) 0 368 g → (∀ q, q ≠ m + 2 → h' q = h q) → Q none h' nx) →
    tb_wp E d 99 2 [.ref m, .int (nI i)] [] h nx 0 0 Q := by
  induction n with
  | zero =>
    intro i h F hi hm hA hB hF hQ
    simp (disch := first | assumption | omega | exact tb_sm0 | exact tb_sm1 _ | exact tb_sm2 _ _ | exact tb_sm3 _ _ _ | exact tb_sm4 _ _ _ _ | exact Or.inl rfl | exact Or.inr rfl | fail) only [r99_2, r99_3, r99_6, nI_add, pk_mul, e_sub, e_div, tb_nmod, e_dec, e_le, e_lt, e_eq, e_eq0, e_lt0, e_0le, e_0lt, e_le0, if_true, if_false, not_true_eq_false, not_false_eq_true, ite_true, ite_false, Nat.reduceAdd, Nat.reduceMul, Nat.reduceLeDiff, Nat.reduceLT, Nat.reduceEqDiff, Nat.reduceSub, ↓reduceIte, Nat.reduceDiv, Nat.reduceMod]
    rw [if_pos (by omega)]
    simp (disch := first | assumption | omega | exact tb_sm0 | exact tb_sm1 _ | exact tb_sm2 _ _ | exact tb_sm3 _ _ _ | exact tb_sm4 _ _ _ _ | exact Or.inl rfl | exact Or.inr rfl | fail) only [r99_27]
    exact hQ h (hB.to rfl (fun j hj => hF j (by omega))) (fun _ _ => rfl)
  | succ n ih =>
    intro i h F hi hm hA hB hF hQ
    obtain ⟨g1, g2⟩ := ho h hm
    have ld : ∀ {j : Nat} (hj : j < 368) {K : Int32 → Prop}, tb_wF (tb_ld E h 0 (m + 1) (nI j)) K = K (g j) := fun hj => hA.ld hj (by decide)
    simp (disch := first | assumption | omega | exact tb_sm0 | exact tb_sm1 _ | exact tb_sm2 _ _ | exact tb_sm3 _ _ _ | exact tb_sm4 _ _ _ _ | exact Or.inl rfl | exact Or.inr rfl | fail) only [r99_2, r99_3, r99_6, nI_add, pk_mul, e_sub, e_div, tb_nmod, e_dec, e_le, e_lt, e_eq, e_eq0, e_lt0, e_0le, e_0lt, e_le0, if_true, if_false, not_true_eq_false, not_false_eq_true, ite_true, ite_false, Nat.reduceAdd, Nat.reduceMul, Nat.reduceLeDiff, Nat.reduceLT, Nat.reduceEqDiff, Nat.reduceSub, ↓reduceIte, Nat.reduceDiv, Nat.reduceMod]
    rw [if_neg (by omega)]
    simp (disch := first | assumption | omega | exact tb_sm0 | exact tb_sm1 _ | exact tb_sm2 _ _ | exact tb_sm3 _ _ _ | exact tb_sm4 _ _ _ _ | exact Or.inl rfl | exact Or.inr rfl | fail) only [r99_0, r99_1, r99_3, r99_6, r99_9, r99_10, r99_13, r99_14, r99_15, r99_18, r99_19, r99_20, r99_21, r99_24, r99_27, g1, g2, ld, tb_vl_some, tb_vl_none, tb_wF_some, nI_add, pk_mul, e_sub, e_div, tb_nmod, e_dec, e_le, e_lt, e_eq, e_eq0, e_lt0, e_0le, e_0lt, e_le0, if_true, if_false, not_true_eq_false, not_false_eq_true, ite_true, ite_false, Nat.reduceAdd, Nat.reduceMul, Nat.reduceLeDiff, Nat.reduceLT, Nat.reduceEqDiff, Nat.reduceSub, ↓reduceIte, Nat.reduceDiv, Nat.reduceMod]
    refine hB.st (by omega) (by decide) (fun h2 hB2 hF2 => ?_)
    refine ih (i + 1) h2 _ (by omega) (by rw [hF2 _ (by omega), hm]) (hA.to (hF2 _ (by omega)) (fun _ _ => rfl)) hB2 (fun j hj => ?_) (fun h3 h31 h32 => hQ h3 h31 (fun q hq => by rw [h32 q hq, hF2 q hq]))
    unfold upd
    by_cases c : j = i
    · rw [if_pos c, c]
    · rw [if_neg c]; exact hF j (by omega)
theorem m_putAside {m : Nat} {g F : Nat → Int32} {kp kn le sa sb po wr sp : Int32} (h0 : tb_Mo h m kp kn le sa sb po wr sp) (hA : tb_isA h (m + 1) 0 368 g) (hB : tb_isA h (m + 2) 0 368 F) (hQ : ∀ h', tb_isA h' (m + 2) 0 368 g → (∀ q, q ≠ m + 2 → h' q = h q) → Q none h' nx) :
    tb_wp E d 99 0 [.ref m, .long 0] [] h nx 0 0 Q := by
  simp (disch := first | assumption | omega | exact tb_sm0 | exact tb_sm1 _ | exact tb_sm2 _ _ | exact tb_sm3 _ _ _ | exact tb_sm4 _ _ _ _ | exact Or.inl rfl | exact Or.inr rfl | fail) only [r99_0, r99_1]
  refine m_putAside_l (ob := h m) (fun h' hh => ?_) 368 0 h F rfl rfl hA hB (fun j hj => by omega) hQ
  have h0' : tb_Mo h' m kp kn le sa sb po wr sp := by unfold tb_Mo; rw [hh]; exact h0
  have g := h0'.g
  simp only [g, and_self]
theorem m_putBack_l {m : Nat} {g : Nat → Int32} {ob : Option tb_cell} (ho : ∀ h' : tb_heap, h' m = ob → tb_gf h' m 6 0 = some (.ref (m + 1)) ∧ tb_gf h' m 6 1 = some (.ref (m + 2))) (n : Nat) : ∀ (i : Nat) (h : tb_heap) (F : Nat → Int32), i + n = 368 → h m = ob → tb_isA h (m + 2) 0 368 g → tb_isA h (m + 1) 0 368 F → (∀ j, j < i → F j = g j) → (∀ h', tb_isA h' (m + 1) 0 368 g → (∀ q, q ≠ m + 1 → h' q = h q) → Q none h' nx) →
    tb_wp E d 100 2 [.ref m, .int (nI i)] [] h nx 0 0 Q := by
  induction n with
  | zero =>
    intro i h F hi hm hA hB hF hQ
    simp (disch := first | assumption | omega | exact tb_sm0 | exact tb_sm1 _ | exact tb_sm2 _ _ | exact tb_sm3 _ _ _ | exact tb_sm4 _ _ _ _ | exact Or.inl rfl | exact Or.inr rfl | fail) only [r100_2, r100_3, r100_6, nI_add, pk_mul, e_sub, e_div, tb_nmod, e_dec, e_le, e_lt, e_eq, e_eq0, e_lt0, e_0le, e_0lt, e_le0, if_true, if_false, not_true_eq_false, not_false_eq_true, ite_true, ite_false, Nat.reduceAdd, Nat.reduceMul, Nat.reduceLeDiff, Nat.reduceLT, Nat.reduceEqDiff, Nat.reduceSub, ↓reduceIte, Nat.reduceDiv, Nat.reduceMod]
    rw [if_pos (by omega)]
    simp (disch := first | assumption | omega | exact tb_sm0 | exact tb_sm1 _ | exact tb_sm2 _ _ | exact tb_sm3 _ _ _ | exact tb_sm4 _ _ _ _ | exact Or.inl rfl | exact Or.inr rfl | fail) only [r100_27]
    exact hQ h (hB.to rfl (fun j hj => hF j (by omega))) (fun _ _ => rfl)
  | succ n ih =>
    intro i h F hi hm hA hB hF hQ
    obtain ⟨g1, g2⟩ := ho h hm
    have ld : ∀ {j : Nat} (hj : j < 368) {K : Int32 → Prop}, tb_wF (tb_ld E h 0 (m + 2) (nI j)) K = K (g j) := fun hj => hA.ld hj (by decide)
    simp (disch := first | assumption | omega | exact tb_sm0 | exact tb_sm1 _ | exact tb_sm2 _ _ | exact tb_sm3 _ _ _ | exact tb_sm4 _ _ _ _ | exact Or.inl rfl | exact Or.inr rfl | fail) only [r100_2, r100_3, r100_6, nI_add, pk_mul, e_sub, e_div, tb_nmod, e_dec, e_le, e_lt, e_eq, e_eq0, e_lt0, e_0le, e_0lt, e_le0, if_true, if_false, not_true_eq_false, not_false_eq_true, ite_true, ite_false, Nat.reduceAdd, Nat.reduceMul, Nat.reduceLeDiff, Nat.reduceLT, Nat.reduceEqDiff, Nat.reduceSub, ↓reduceIte, Nat.reduceDiv, Nat.reduceMod]
    rw [if_neg (by omega)]
    simp (disch := first | assumption | omega | exact tb_sm0 | exact tb_sm1 _ | exact tb_sm2 _ _ | exact tb_sm3 _ _ _ | exact tb_sm4 _ _ _ _ | exact Or.inl rfl | exact Or.inr rfl | fail) only [r100_0, r100_1, r100_3, r100_6, r100_9, r100_10, r100_13, r100_14, r100_15, r100_18, r100_19, r100_20, r100_21, r100_24, r100_27, g1, g2, ld, tb_vl_some, tb_vl_none, tb_wF_some, nI_add, pk_mul, e_sub, e_div, tb_nmod, e_dec, e_le, e_lt, e_eq, e_eq0, e_lt0, e_0le, e_0lt, e_le0, if_true, if_false, not_true_eq_false, not_false_eq_true, ite_true, ite_false, Nat.reduceAdd, Nat.reduceMul, Nat.reduceLeDiff, Nat.reduceLT, Nat.reduceEqDiff, Nat.reduceSub, ↓reduceIte, Nat.reduceDiv, Nat.reduceMod]
    refine hB.st (by omega) (by decide) (fun h2 hB2 hF2 => ?_)
    refine ih (i + 1) h2 _ (by omega) (by rw [hF2 _ (by omega), hm]) (hA.to (hF2 _ (by omega)) (fun _ _ => rfl)) hB2 (fun j hj => ?_) (fun h3 h31 h32 => hQ h3 h31 (fun q hq => by rw [h32 q hq, hF2 q hq]))
    unfold upd
    by_cases c : j = i
    · rw [if_pos c, c]
    · rw [if_neg c]; exact hF j (by omega)
theorem m_putBack {m : Nat} {g F : Nat → Int32} {kp kn le sa sb po wr sp : Int32} (h0 : tb_Mo h m kp kn le sa sb po wr sp) (hA : tb_isA h (m + 2) 0 368 g) (hB : tb_isA h (m + 1) 0 368 F) (hQ : ∀ h', tb_isA h' (m + 1) 0 368 g → (∀ q, q ≠ m + 1 → h' q = h q) → Q none h' nx) :
    tb_wp E d 100 0 [.ref m, .long 0] [] h nx 0 0 Q := by
  simp (disch := first | assumption | omega | exact tb_sm0 | exact tb_sm1 _ | exact tb_sm2 _ _ | exact tb_sm3 _ _ _ | exact tb_sm4 _ _ _ _ | exact Or.inl rfl | exact Or.inr rfl | fail) only [r100_0, r100_1]
  refine m_putBack_l (ob := h m) (fun h' hh => ?_) 368 0 h F rfl rfl hA hB (fun j hj => by omega) hQ
  have h0' : tb_Mo h' m kp kn le sa sb po wr sp := by unfold tb_Mo; rw [hh]; exact h0
  have g := h0'.g
  simp only [g, and_self]
theorem m_heaps_l {m : Nat} {b : Nat} {s : Nat → Nat} (hM : tb_MS h m s) (hI : sp_I s) (hb : b < 5) (n : Nat) : ∀ i, i + n = 32 → tb_wp E d 115 4 [.ref m, .int (nI b), .int (nI (sp_acc (fun j => if 0 < s (48 + 32 * b + j) then 1 else 0) i)), .int (nI i)] [] h nx 0 0 Q = Q (some (.int (nI (sp_acc (fun j => if 0 < s (48 + 32 * b + j) then 1 else 0) 32)))) h nx := by
  have g := hM.g
  induction n with
  | zero =>
    intro i hi
    simp (disch := first | assumption | omega | exact tb_sm0 | exact tb_sm1 _ | exact tb_sm2 _ _ | exact tb_sm3 _ _ _ | exact tb_sm4 _ _ _ _ | exact Or.inl rfl | exact Or.inr rfl | fail) only [r115_4, r115_5, r115_7, nI_add, pk_mul, e_sub, e_div, tb_nmod, e_dec, e_le, e_lt, e_eq, e_eq0, e_lt0, e_0le, e_0lt, e_le0, if_true, if_false, not_true_eq_false, not_false_eq_true, ite_true, ite_false, Nat.reduceAdd, Nat.reduceMul, Nat.reduceLeDiff, Nat.reduceLT, Nat.reduceEqDiff, Nat.reduceSub, ↓reduceIte, Nat.reduceDiv, Nat.reduceMod]
    rw [if_pos (by omega), show i = 32 by omega]
    simp (disch := first | assumption | omega | exact tb_sm0 | exact tb_sm1 _ | exact tb_sm2 _ _ | exact tb_sm3 _ _ _ | exact tb_sm4 _ _ _ _ | exact Or.inl rfl | exact Or.inr rfl | fail) only [r115_0, r115_1, r115_2, r115_3, r115_5, r115_7, r115_10, r115_11, r115_12, r115_15, r115_17, r115_19, r115_20, r115_21, r115_22, r115_23, r115_24, r115_25, r115_28, r115_29, r115_32, r115_33, r115_34, r115_35, r115_38, r115_41, r115_42]
  | succ n ih =>
    intro i hi
    simp (disch := first | assumption | omega | exact tb_sm0 | exact tb_sm1 _ | exact tb_sm2 _ _ | exact tb_sm3 _ _ _ | exact tb_sm4 _ _ _ _ | exact Or.inl rfl | exact Or.inr rfl | fail) only [r115_4, r115_5, r115_7, nI_add, pk_mul, e_sub, e_div, tb_nmod, e_dec, e_le, e_lt, e_eq, e_eq0, e_lt0, e_0le, e_0lt, e_le0, if_true, if_false, not_true_eq_false, not_false_eq_true, ite_true, ite_false, Nat.reduceAdd, Nat.reduceMul, Nat.reduceLeDiff, Nat.reduceLT, Nat.reduceEqDiff, Nat.reduceSub, ↓reduceIte, Nat.reduceDiv, Nat.reduceMod]
    rw [if_neg (by omega)]
    have hj := sp_hp_le hI hb (show i < 32 by omega)
    by_cases c : 0 < s (48 + 32 * b + i)
    · have c' : ¬ s (48 + 32 * b + i) = 0 := by omega
      simp (disch := first | assumption | omega | exact tb_sm0 | exact tb_sm1 _ | exact tb_sm2 _ _ | exact tb_sm3 _ _ _ | exact tb_sm4 _ _ _ _ | exact Or.inl rfl | exact Or.inr rfl | fail) only [r115_0, r115_1, r115_2, r115_3, r115_5, r115_7, r115_10, r115_11, r115_12, r115_15, r115_17, r115_19, r115_20, r115_21, r115_22, r115_23, r115_24, r115_25, r115_28, r115_29, r115_32, r115_33, r115_34, r115_35, r115_38, r115_41, r115_42, g, hM.ld, c', tb_vl_some, tb_vl_none, tb_wF_some, nI_add, pk_mul, e_sub, e_div, tb_nmod, e_dec, e_le, e_lt, e_eq, e_eq0, e_lt0, e_0le, e_0lt, e_le0, if_true, if_false, not_true_eq_false, not_false_eq_true, ite_true, ite_false, Nat.reduceAdd, Nat.reduceMul, Nat.reduceLeDiff, Nat.reduceLT, Nat.reduceEqDiff, Nat.reduceSub, ↓reduceIte, Nat.reduceDiv, Nat.reduceMod]
      have := ih (i + 1) (by omega)
      simp only [sp_acc, c, if_true] at this
      exact this
    · have c' : s (48 + 32 * b + i) = 0 := by omega
      simp (disch := first | assumption | omega | exact tb_sm0 | exact tb_sm1 _ | exact tb_sm2 _ _ | exact tb_sm3 _ _ _ | exact tb_sm4 _ _ _ _ | exact Or.inl rfl | exact Or.inr rfl | fail) only [r115_0, r115_1, r115_2, r115_3, r115_5, r115_7, r115_10, r115_11, r115_12, r115_15, r115_17, r115_19, r115_20, r115_21, r115_22, r115_23, r115_24, r115_25, r115_28, r115_29, r115_32, r115_33, r115_34, r115_35, r115_38, r115_41, r115_42, g, hM.ld, c', tb_vl_some, tb_vl_none, tb_wF_some, nI_add, pk_mul, e_sub, e_div, tb_nmod, e_dec, e_le, e_lt, e_eq, e_eq0, e_lt0, e_0le, e_0lt, e_le0, if_true, if_false, not_true_eq_false, not_false_eq_true, ite_true, ite_false, Nat.reduceAdd, Nat.reduceMul, Nat.reduceLeDiff, Nat.reduceLT, Nat.reduceEqDiff, Nat.reduceSub, ↓reduceIte, Nat.reduceDiv, Nat.reduceMod]
      have := ih (i + 1) (by omega)
      simp only [sp_acc, c, if_false] at this
      exact this
theorem m_heaps {m : Nat} {b : Nat} {s : Nat → Nat} (hM : tb_MS h m s) (hI : sp_I s) (hb : b < 5) : tb_wp E d 115 0 [.ref m, .int (nI b), .long 0, .long 0] [] h nx 0 0 Q = Q (some (.int (nI (sp_acc (fun j => if 0 < s (48 + 32 * b + j) then 1 else 0) 32)))) h nx := by
  simp (disch := first | assumption | omega | exact tb_sm0 | exact tb_sm1 _ | exact tb_sm2 _ _ | exact tb_sm3 _ _ _ | exact tb_sm4 _ _ _ _ | exact Or.inl rfl | exact Or.inr rfl | fail) only [r115_0, r115_1, r115_2, r115_3, r115_5, r115_7, r115_10, r115_11, r115_12, r115_15, r115_17, r115_19, r115_20, r115_21, r115_22, r115_23, r115_24, r115_25, r115_28, r115_29, r115_32, r115_33, r115_34, r115_35, r115_38, r115_41, r115_42]
  exact m_heaps_l hM hI hb 32 0 (by omega)
theorem m_movingHeaps_l {m : Nat} {b : Nat} {s : Nat → Nat} (hM : tb_MS h m s) (hI : sp_I s) (hb : b < 5) (n : Nat) : ∀ i, i + n = 32 → tb_wp E d 141 4 [.ref m, .int (nI b), .int (nI (sp_acc (fun j => if 0 < s (48 + 32 * b + j) then s (208 + 32 * b + j) else 0) i)), .int (nI i)] [] h nx 0 0 Q = Q (some (.int (nI (sp_acc (fun j => if 0 < s (48 + 32 * b + j) then s (208 + 32 * b + j) else 0) 32)))) h nx := by
  have g := hM.g
  induction n with
  | zero =>
    intro i hi
    simp (disch := first | assumption | omega | exact tb_sm0 | exact tb_sm1 _ | exact tb_sm2 _ _ | exact tb_sm3 _ _ _ | exact tb_sm4 _ _ _ _ | exact Or.inl rfl | exact Or.inr rfl | fail) only [r141_4, r141_5, r141_7, nI_add, pk_mul, e_sub, e_div, tb_nmod, e_dec, e_le, e_lt, e_eq, e_eq0, e_lt0, e_0le, e_0lt, e_le0, if_true, if_false, not_true_eq_false, not_false_eq_true, ite_true, ite_false, Nat.reduceAdd, Nat.reduceMul, Nat.reduceLeDiff, Nat.reduceLT, Nat.reduceEqDiff, Nat.reduceSub, ↓reduceIte, Nat.reduceDiv, Nat.reduceMod]
    rw [if_pos (by omega), show i = 32 by omega]
    simp (disch := first | assumption | omega | exact tb_sm0 | exact tb_sm1 _ | exact tb_sm2 _ _ | exact tb_sm3 _ _ _ | exact tb_sm4 _ _ _ _ | exact Or.inl rfl | exact Or.inr rfl | fail) only [r141_0, r141_1, r141_2, r141_3, r141_5, r141_7, r141_10, r141_11, r141_12, r141_15, r141_17, r141_19, r141_20, r141_21, r141_22, r141_23, r141_24, r141_25, r141_28, r141_29, r141_32, r141_35, r141_37, r141_38, r141_39, r141_40, r141_41, r141_42, r141_43, r141_46, r141_47, r141_48, r141_49, r141_52, r141_55, r141_56]
  | succ n ih =>
    intro i hi
    simp (disch := first | assumption | omega | exact tb_sm0 | exact tb_sm1 _ | exact tb_sm2 _ _ | exact tb_sm3 _ _ _ | exact tb_sm4 _ _ _ _ | exact Or.inl rfl | exact Or.inr rfl | fail) only [r141_4, r141_5, r141_7, nI_add, pk_mul, e_sub, e_div, tb_nmod, e_dec, e_le, e_lt, e_eq, e_eq0, e_lt0, e_0le, e_0lt, e_le0, if_true, if_false, not_true_eq_false, not_false_eq_true, ite_true, ite_false, Nat.reduceAdd, Nat.reduceMul, Nat.reduceLeDiff, Nat.reduceLT, Nat.reduceEqDiff, Nat.reduceSub, ↓reduceIte, Nat.reduceDiv, Nat.reduceMod]
    rw [if_neg (by omega)]
    have hj := sp_hp_le hI hb (show i < 32 by omega)
    by_cases c : 0 < s (48 + 32 * b + i)
    · have c' : ¬ s (48 + 32 * b + i) = 0 := by omega
      simp (disch := first | assumption | omega | exact tb_sm0 | exact tb_sm1 _ | exact tb_sm2 _ _ | exact tb_sm3 _ _ _ | exact tb_sm4 _ _ _ _ | exact Or.inl rfl | exact Or.inr rfl | fail) only [r141_0, r141_1, r141_2, r141_3, r141_5, r141_7, r141_10, r141_11, r141_12, r141_15, r141_17, r141_19, r141_20, r141_21, r141_22, r141_23, r141_24, r141_25, r141_28, r141_29, r141_32, r141_35, r141_37, r141_38, r141_39, r141_40, r141_41, r141_42, r141_43, r141_46, r141_47, r141_48, r141_49, r141_52, r141_55, r141_56, g, hM.ld, c', tb_vl_some, tb_vl_none, tb_wF_some, nI_add, pk_mul, e_sub, e_div, tb_nmod, e_dec, e_le, e_lt, e_eq, e_eq0, e_lt0, e_0le, e_0lt, e_le0, if_true, if_false, not_true_eq_false, not_false_eq_true, ite_true, ite_false, Nat.reduceAdd, Nat.reduceMul, Nat.reduceLeDiff, Nat.reduceLT, Nat.reduceEqDiff, Nat.reduceSub, ↓reduceIte, Nat.reduceDiv, Nat.reduceMod]
      have := ih (i + 1) (by omega)
      simp only [sp_acc, c, if_true] at this
      exact this
    · have c' : s (48 + 32 * b + i) = 0 := by omega
      simp (disch := first | assumption | omega | exact tb_sm0 | exact tb_sm1 _ | exact tb_sm2 _ _ | exact tb_sm3 _ _ _ | exact tb_sm4 _ _ _ _ | exact Or.inl rfl | exact Or.inr rfl | fail) only [r141_0, r141_1, r141_2, r141_3, r141_5, r141_7, r141_10, r141_11, r141_12, r141_15, r141_17, r141_19, r141_20, r141_21, r141_22, r141_23, r141_24, r141_25, r141_28, r141_29, r141_32, r141_35, r141_37, r141_38, r141_39, r141_40, r141_41, r141_42, r141_43, r141_46, r141_47, r141_48, r141_49, r141_52, r141_55, r141_56, g, hM.ld, c', tb_vl_some, tb_vl_none, tb_wF_some, nI_add, pk_mul, e_sub, e_div, tb_nmod, e_dec, e_le, e_lt, e_eq, e_eq0, e_lt0, e_0le, e_0lt, e_le0, if_true, if_false, not_true_eq_false, not_false_eq_true, ite_true, ite_false, Nat.reduceAdd, Nat.reduceMul, Nat.reduceLeDiff, Nat.reduceLT, Nat.reduceEqDiff, Nat.reduceSub, ↓reduceIte, Nat.reduceDiv, Nat.reduceMod]
      have := ih (i + 1) (by omega)
      simp only [sp_acc, c, if_false] at this
      exact this
theorem m_movingHeaps {m : Nat} {b : Nat} {s : Nat → Nat} (hM : tb_MS h m s) (hI : sp_I s) (hb : b < 5) : tb_wp E d 141 0 [.ref m, .int (nI b), .long 0, .long 0] [] h nx 0 0 Q = Q (some (.int (nI (sp_acc (fun j => if 0 < s (48 + 32 * b + j) then s (208 + 32 * b + j) else 0) 32)))) h nx := by
  simp (disch := first | assumption | omega | exact tb_sm0 | exact tb_sm1 _ | exact tb_sm2 _ _ | exact tb_sm3 _ _ _ | exact tb_sm4 _ _ _ _ | exact Or.inl rfl | exact Or.inr rfl | fail) only [r141_0, r141_1, r141_2, r141_3, r141_5, r141_7, r141_10, r141_11, r141_12, r141_15, r141_17, r141_19, r141_20, r141_21, r141_22, r141_23, r141_24, r141_25, r141_28, r141_29, r141_32, r141_35, r141_37, r141_38, r141_39, r141_40, r141_41, r141_42, r141_43, r141_46, r141_47, r141_48, r141_49, r141_52, r141_55, r141_56]
  exact m_movingHeaps_l hM hI hb 32 0 (by omega)
theorem m_fell_l {m : Nat} {s : Nat → Nat} (hM : tb_MS h m s)  (n : Nat) : ∀ i, i + n = 5 → tb_wp E d 110 4 [.ref m, .int (nI (sp_acc (fun j => s (18 + j)) i)), .int (nI i)] [] h nx 0 0 Q = Q (some (.int (nI (sp_acc (fun j => s (18 + j)) 5)))) h nx := by
  have g := hM.g
  induction n with
  | zero =>
    intro i hi
    simp (disch := first | assumption | omega | exact tb_sm0 | exact tb_sm1 _ | exact tb_sm2 _ _ | exact tb_sm3 _ _ _ | exact tb_sm4 _ _ _ _ | exact Or.inl rfl | exact Or.inr rfl | fail) only [r110_4, r110_5, r110_6, nI_add, pk_mul, e_sub, e_div, tb_nmod, e_dec, e_le, e_lt, e_eq, e_eq0, e_lt0, e_0le, e_0lt, e_le0, if_true, if_false, not_true_eq_false, not_false_eq_true, ite_true, ite_false, Nat.reduceAdd, Nat.reduceMul, Nat.reduceLeDiff, Nat.reduceLT, Nat.reduceEqDiff, Nat.reduceSub, ↓reduceIte, Nat.reduceDiv, Nat.reduceMod]
    rw [if_pos (by omega), show i = 5 by omega]
    simp (disch := first | assumption | omega | exact tb_sm0 | exact tb_sm1 _ | exact tb_sm2 _ _ | exact tb_sm3 _ _ _ | exact tb_sm4 _ _ _ _ | exact Or.inl rfl | exact Or.inr rfl | fail) only [r110_0, r110_1, r110_2, r110_3, r110_5, r110_6, r110_9, r110_10, r110_11, r110_14, r110_16, r110_17, r110_18, r110_19, r110_20, r110_21, r110_24, r110_27, r110_28]
  | succ n ih =>
    intro i hi
    simp (disch := first | assumption | omega | exact tb_sm0 | exact tb_sm1 _ | exact tb_sm2 _ _ | exact tb_sm3 _ _ _ | exact tb_sm4 _ _ _ _ | exact Or.inl rfl | exact Or.inr rfl | fail) only [r110_4, r110_5, r110_6, nI_add, pk_mul, e_sub, e_div, tb_nmod, e_dec, e_le, e_lt, e_eq, e_eq0, e_lt0, e_0le, e_0lt, e_le0, if_true, if_false, not_true_eq_false, not_false_eq_true, ite_true, ite_false, Nat.reduceAdd, Nat.reduceMul, Nat.reduceLeDiff, Nat.reduceLT, Nat.reduceEqDiff, Nat.reduceSub, ↓reduceIte, Nat.reduceDiv, Nat.reduceMod]
    rw [if_neg (by omega)]
    simp (disch := first | assumption | omega | exact tb_sm0 | exact tb_sm1 _ | exact tb_sm2 _ _ | exact tb_sm3 _ _ _ | exact tb_sm4 _ _ _ _ | exact Or.inl rfl | exact Or.inr rfl | fail) only [r110_0, r110_1, r110_2, r110_3, r110_5, r110_6, r110_9, r110_10, r110_11, r110_14, r110_16, r110_17, r110_18, r110_19, r110_20, r110_21, r110_24, r110_27, r110_28, g, hM.ld, tb_vl_some, tb_vl_none, tb_wF_some, nI_add, pk_mul, e_sub, e_div, tb_nmod, e_dec, e_le, e_lt, e_eq, e_eq0, e_lt0, e_0le, e_0lt, e_le0, if_true, if_false, not_true_eq_false, not_false_eq_true, ite_true, ite_false, Nat.reduceAdd, Nat.reduceMul, Nat.reduceLeDiff, Nat.reduceLT, Nat.reduceEqDiff, Nat.reduceSub, ↓reduceIte, Nat.reduceDiv, Nat.reduceMod]
    exact ih (i + 1) (by omega)
theorem m_fell {m : Nat} {s : Nat → Nat} (hM : tb_MS h m s)  : tb_wp E d 110 0 [.ref m, .long 0, .long 0] [] h nx 0 0 Q = Q (some (.int (nI (sp_acc (fun j => s (18 + j)) 5)))) h nx := by
  simp (disch := first | assumption | omega | exact tb_sm0 | exact tb_sm1 _ | exact tb_sm2 _ _ | exact tb_sm3 _ _ _ | exact tb_sm4 _ _ _ _ | exact Or.inl rfl | exact Or.inr rfl | fail) only [r110_0, r110_1, r110_2, r110_3, r110_5, r110_6, r110_9, r110_10, r110_11, r110_14, r110_16, r110_17, r110_18, r110_19, r110_20, r110_21, r110_24, r110_27, r110_28]
  exact m_fell_l hM  5 0 (by omega)
theorem m_sumOf_l {m : Nat} {b w : Nat} {s : Nat → Nat} (hM : tb_MS h m s) (hw : w < 1000) (hbw : ∀ j, j < w → b + 4 * j < 368) (n : Nat) : ∀ i, i + n = w → tb_wp E d 144 5 [.ref m, .int (nI b), .int (nI w), .int (nI (sp_acc (fun j => s (b + 4 * j)) i)), .int (nI i)] [] h nx 0 0 Q = Q (some (.int (nI (sp_acc (fun j => s (b + 4 * j)) w)))) h nx := by
  have g := hM.g
  induction n with
  | zero =>
    intro i hi
    simp (disch := first | assumption | omega | exact tb_sm0 | exact tb_sm1 _ | exact tb_sm2 _ _ | exact tb_sm3 _ _ _ | exact tb_sm4 _ _ _ _ | exact Or.inl rfl | exact Or.inr rfl | fail) only [r144_5, r144_7, r144_8, nI_add, pk_mul, e_sub, e_div, tb_nmod, e_dec, e_le, e_lt, e_eq, e_eq0, e_lt0, e_0le, e_0lt, e_le0, if_true, if_false, not_true_eq_false, not_false_eq_true, ite_true, ite_false, Nat.reduceAdd, Nat.reduceMul, Nat.reduceLeDiff, Nat.reduceLT, Nat.reduceEqDiff, Nat.reduceSub, ↓reduceIte, Nat.reduceDiv, Nat.reduceMod]
    rw [if_pos (by omega), show i = w by omega]
    simp (disch := first | assumption | omega | exact tb_sm0 | exact tb_sm1 _ | exact tb_sm2 _ _ | exact tb_sm3 _ _ _ | exact tb_sm4 _ _ _ _ | exact Or.inl rfl | exact Or.inr rfl | fail) only [r144_0, r144_1, r144_2, r144_3, r144_7, r144_8, r144_11, r144_12, r144_13, r144_16, r144_17, r144_18, r144_20, r144_21, r144_22, r144_23, r144_24, r144_25, r144_28, r144_31, r144_32]
  | succ n ih =>
    intro i hi
    have hb2 := hbw i (by omega)
    simp (disch := first | assumption | omega | exact tb_sm0 | exact tb_sm1 _ | exact tb_sm2 _ _ | exact tb_sm3 _ _ _ | exact tb_sm4 _ _ _ _ | exact Or.inl rfl | exact Or.inr rfl | fail) only [r144_5, r144_7, r144_8, nI_add, pk_mul, e_sub, e_div, tb_nmod, e_dec, e_le, e_lt, e_eq, e_eq0, e_lt0, e_0le, e_0lt, e_le0, if_true, if_false, not_true_eq_false, not_false_eq_true, ite_true, ite_false, Nat.reduceAdd, Nat.reduceMul, Nat.reduceLeDiff, Nat.reduceLT, Nat.reduceEqDiff, Nat.reduceSub, ↓reduceIte, Nat.reduceDiv, Nat.reduceMod]
    rw [if_neg (by omega)]
    simp (disch := first | assumption | omega | exact tb_sm0 | exact tb_sm1 _ | exact tb_sm2 _ _ | exact tb_sm3 _ _ _ | exact tb_sm4 _ _ _ _ | exact Or.inl rfl | exact Or.inr rfl | fail) only [r144_0, r144_1, r144_2, r144_3, r144_7, r144_8, r144_11, r144_12, r144_13, r144_16, r144_17, r144_18, r144_20, r144_21, r144_22, r144_23, r144_24, r144_25, r144_28, r144_31, r144_32, g, hM.ld, tb_vl_some, tb_vl_none, tb_wF_some, nI_add, pk_mul, e_sub, e_div, tb_nmod, e_dec, e_le, e_lt, e_eq, e_eq0, e_lt0, e_0le, e_0lt, e_le0, if_true, if_false, not_true_eq_false, not_false_eq_true, ite_true, ite_false, Nat.reduceAdd, Nat.reduceMul, Nat.reduceLeDiff, Nat.reduceLT, Nat.reduceEqDiff, Nat.reduceSub, ↓reduceIte, Nat.reduceDiv, Nat.reduceMod]
    exact ih (i + 1) (by omega)
theorem m_sumOf {m : Nat} {b w : Nat} {s : Nat → Nat} (hM : tb_MS h m s) (hw : w < 1000) (hbw : ∀ j, j < w → b + 4 * j < 368) : tb_wp E d 144 0 [.ref m, .int (nI b), .int (nI w), .long 0, .long 0] [] h nx 0 0 Q = Q (some (.int (nI (sp_acc (fun j => s (b + 4 * j)) w)))) h nx := by
  simp (disch := first | assumption | omega | exact tb_sm0 | exact tb_sm1 _ | exact tb_sm2 _ _ | exact tb_sm3 _ _ _ | exact tb_sm4 _ _ _ _ | exact Or.inl rfl | exact Or.inr rfl | fail) only [r144_0, r144_1, r144_2, r144_3, r144_7, r144_8, r144_11, r144_12, r144_13, r144_16, r144_17, r144_18, r144_20, r144_21, r144_22, r144_23, r144_24, r144_25, r144_28, r144_31, r144_32]
  exact m_sumOf_l hM hw hbw w 0 (by omega)
theorem m_sum_l {m : Nat} {b w : Nat} {s : Nat → Nat} (hM : tb_MS h m s) (hw : w < 1000) (hbw : ∀ j, j < w → b + j < 368) (n : Nat) : ∀ i, i + n = w → tb_wp E d 154 5 [.ref m, .int (nI b), .int (nI w), .int (nI (sp_acc (fun j => s (b + j)) i)), .int (nI i)] [] h nx 0 0 Q = Q (some (.int (nI (sp_acc (fun j => s (b + j)) w)))) h nx := by
  have g := hM.g
  induction n with
  | zero =>
    intro i hi
    simp (disch := first | assumption | omega | exact tb_sm0 | exact tb_sm1 _ | exact tb_sm2 _ _ | exact tb_sm3 _ _ _ | exact tb_sm4 _ _ _ _ | exact Or.inl rfl | exact Or.inr rfl | fail) only [r154_5, r154_7, r154_8, nI_add, pk_mul, e_sub, e_div, tb_nmod, e_dec, e_le, e_lt, e_eq, e_eq0, e_lt0, e_0le, e_0lt, e_le0, if_true, if_false, not_true_eq_false, not_false_eq_true, ite_true, ite_false, Nat.reduceAdd, Nat.reduceMul, Nat.reduceLeDiff, Nat.reduceLT, Nat.reduceEqDiff, Nat.reduceSub, ↓reduceIte, Nat.reduceDiv, Nat.reduceMod]
    rw [if_pos (by omega), show i = w by omega]
    simp (disch := first | assumption | omega | exact tb_sm0 | exact tb_sm1 _ | exact tb_sm2 _ _ | exact tb_sm3 _ _ _ | exact tb_sm4 _ _ _ _ | exact Or.inl rfl | exact Or.inr rfl | fail) only [r154_0, r154_1, r154_2, r154_3, r154_7, r154_8, r154_11, r154_12, r154_13, r154_16, r154_17, r154_19, r154_20, r154_21, r154_22, r154_23, r154_26, r154_29, r154_30]
  | succ n ih =>
    intro i hi
    have hb2 := hbw i (by omega)
    simp (disch := first | assumption | omega | exact tb_sm0 | exact tb_sm1 _ | exact tb_sm2 _ _ | exact tb_sm3 _ _ _ | exact tb_sm4 _ _ _ _ | exact Or.inl rfl | exact Or.inr rfl | fail) only [r154_5, r154_7, r154_8, nI_add, pk_mul, e_sub, e_div, tb_nmod, e_dec, e_le, e_lt, e_eq, e_eq0, e_lt0, e_0le, e_0lt, e_le0, if_true, if_false, not_true_eq_false, not_false_eq_true, ite_true, ite_false, Nat.reduceAdd, Nat.reduceMul, Nat.reduceLeDiff, Nat.reduceLT, Nat.reduceEqDiff, Nat.reduceSub, ↓reduceIte, Nat.reduceDiv, Nat.reduceMod]
    rw [if_neg (by omega)]
    simp (disch := first | assumption | omega | exact tb_sm0 | exact tb_sm1 _ | exact tb_sm2 _ _ | exact tb_sm3 _ _ _ | exact tb_sm4 _ _ _ _ | exact Or.inl rfl | exact Or.inr rfl | fail) only [r154_0, r154_1, r154_2, r154_3, r154_7, r154_8, r154_11, r154_12, r154_13, r154_16, r154_17, r154_19, r154_20, r154_21, r154_22, r154_23, r154_26, r154_29, r154_30, g, hM.ld, tb_vl_some, tb_vl_none, tb_wF_some, nI_add, pk_mul, e_sub, e_div, tb_nmod, e_dec, e_le, e_lt, e_eq, e_eq0, e_lt0, e_0le, e_0lt, e_le0, if_true, if_false, not_true_eq_false, not_false_eq_true, ite_true, ite_false, Nat.reduceAdd, Nat.reduceMul, Nat.reduceLeDiff, Nat.reduceLT, Nat.reduceEqDiff, Nat.reduceSub, ↓reduceIte, Nat.reduceDiv, Nat.reduceMod]
    exact ih (i + 1) (by omega)
theorem m_sum {m : Nat} {b w : Nat} {s : Nat → Nat} (hM : tb_MS h m s) (hw : w < 1000) (hbw : ∀ j, j < w → b + j < 368) : tb_wp E d 154 0 [.ref m, .int (nI b), .int (nI w), .long 0, .long 0] [] h nx 0 0 Q = Q (some (.int (nI (sp_acc (fun j => s (b + j)) w)))) h nx := by
  simp (disch := first | assumption | omega | exact tb_sm0 | exact tb_sm1 _ | exact tb_sm2 _ _ | exact tb_sm3 _ _ _ | exact tb_sm4 _ _ _ _ | exact Or.inl rfl | exact Or.inr rfl | fail) only [r154_0, r154_1, r154_2, r154_3, r154_7, r154_8, r154_11, r154_12, r154_13, r154_16, r154_17, r154_19, r154_20, r154_21, r154_22, r154_23, r154_26, r154_29, r154_30]
  exact m_sum_l hM hw hbw w 0 (by omega)
end M4
