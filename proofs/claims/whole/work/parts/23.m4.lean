/-! THE REFERENCE: copies, sums, acts -/
def sp_acc (f : Nat → Nat) : Nat → Nat
  | 0 => 0
  | n + 1 => sp_acc f n + f n
theorem sp_hp_le {s : Nat → Nat} (hI : sp_I s) {b j : Nat} (hb : b < 5) (hj : j < 32) : s (48 + 32 * b + j) ≤ 99 := by
  have := sp_heap_le hI hb (show j / 4 < 8 by omega) (show j % 4 < 4 by omega)
  rwa [show 48 + 32 * b + 4 * (j / 4) + j % 4 = 48 + 32 * b + j by omega] at this
theorem tb_isA.st0 {h : tb_heap} {a ty n : Nat} {F : Nat → Int32} (hA : tb_isA h a ty n F) {j : Nat} {x : Int32} (hj : j < n) (hn : n < 2 ^ 31) {K : tb_heap → Prop} (hK : ∀ h', tb_isA h' a ty n (fun i => if i = j then x else F i) → (∀ q, q ≠ a → h' q = h q) → K h') : tb_wF (tb_stv h ty a (nI j) x) K := hA.st hj hn hK
/-- the model's object -/
def tb_Mo (h : tb_heap) (m : Nat) (kp kn le sa sb po wr sp : Int32) : Prop := h m = some (.inl (6, [.ref (m + 1), .ref (m + 2), .ref (m + 3), .ref (m + 4), .int kp, .ref (m + 5), .int kn, .ref (m + 6), .int le, .int sa, .int sb, .ref (m + 7), .int po, .int wr, .ref (m + 8), .int sp]))
section M4
variable {E : tb_env} {d : Nat} {h : tb_heap} {nx : Nat} {Q : Option Value → tb_heap → Nat → Prop}
theorem tb_Mo.g {m : Nat} {kp kn le sa sb po wr sp : Int32} (h0 : tb_Mo h m kp kn le sa sb po wr sp) : tb_gf h m 6 0 = some (.ref (m + 1)) ∧ tb_gf h m 6 1 = some (.ref (m + 2)) ∧ tb_gf h m 6 2 = some (.ref (m + 3)) ∧ tb_gf h m 6 3 = some (.ref (m + 4)) ∧ tb_gf h m 6 4 = some (.int kp) ∧ tb_gf h m 6 5 = some (.ref (m + 5)) ∧ tb_gf h m 6 6 = some (.int kn) ∧ tb_gf h m 6 7 = some (.ref (m + 6)) ∧ tb_gf h m 6 8 = some (.int le) ∧ tb_gf h m 6 9 = some (.int sa) ∧ tb_gf h m 6 10 = some (.int sb) ∧ tb_gf h m 6 11 = some (.ref (m + 7)) ∧ tb_gf h m 6 12 = some (.int po) ∧ tb_gf h m 6 13 = some (.int wr) ∧ tb_gf h m 6 14 = some (.ref (m + 8)) ∧ tb_gf h m 6 15 = some (.int sp) := by
  unfold tb_Mo at h0
  simp [tb_gf, h0]
theorem tb_Mo.O {m : Nat} {kp kn le sa sb po wr sp : Int32} (h0 : tb_Mo h m kp kn le sa sb po wr sp) : tb_isO h m 6 := ⟨_, h0⟩
theorem tb_Mo.S {m : Nat} {kp kn le sa sb po wr sp : Int32} {s : Nat → Nat} (h0 : tb_Mo h m kp kn le sa sb po wr sp) (hA : tb_isA h (m + 1) 0 368 (fun j => nI (s j))) : tb_MS h m s := ⟨⟨_, h0, rfl, rfl⟩, hA⟩
theorem m_looks_l {m : Nat} {g : Nat → Int32} {ob : Option tb_cell} (ho : ∀ h' : tb_heap, h' m = ob → tb_gf h' m 6 2 = some (.ref (m + 3)) ∧ tb_gf h' m 6 0 = some (.ref (m + 1))) (n : Nat) : ∀ (i : Nat) (h : tb_heap) (F : Nat → Int32), i + n = 368 → h m = ob → tb_isA h (m + 1) 0 368 g → tb_isA h (m + 3) 0 368 F → (∀ j, j < i → F j = g j) → (∀ h', tb_isA h' (m + 3) 0 368 g → (∀ q, q ≠ m + 3 → h' q = h q) → Q none h' nx) →
    tb_wp E d 96 2 [.ref m, .int (nI i)] [] h nx 0 0 Q := by
  induction n with
  | zero =>
    intro i h F hi hm hA hB hF hQ
    simp (disch := first | assumption | omega | exact tb_sm0 | exact tb_sm1 _ | exact tb_sm2 _ _ | exact tb_sm3 _ _ _ | exact tb_sm4 _ _ _ _ | exact Or.inl rfl | exact Or.inr rfl | fail) only [r96_2, r96_3, r96_6, nI_add, pk_mul, e_sub, e_div, tb_nmod, e_dec, e_le, e_lt, e_eq, e_eq0, e_lt0, e_0le, e_0lt, e_le0, if_true, if_false, not_true_eq_false, not_false_eq_true, ite_true, ite_false, Nat.reduceAdd, Nat.reduceMul, Nat.reduceLeDiff, Nat.reduceLT, Nat.reduceEqDiff, Nat.reduceSub, ↓reduceIte, Nat.reduceDiv, Nat.reduceMod]
    rw [if_pos (by omega)]
    simp (disch := first | assumption | omega | exact tb_sm0 | exact tb_sm1 _ | exact tb_sm2 _ _ | exact tb_sm3 _ _ _ | exact tb_sm4 _ _ _ _ | exact Or.inl rfl | exact Or.inr rfl | fail) only [r96_27]
    exact hQ h (hB.to rfl (fun j hj => hF j (by omega))) (fun _ _ => rfl)
  | succ n ih =>
    intro i h F hi hm hA hB hF hQ
    obtain ⟨g1, g2⟩ := ho h hm
    have ld : ∀ {j : Nat} (hj : j < 368) {K : Int32 → Prop}, tb_wF (tb_ld E h 0 (m + 1) (nI j)) K = K (g j) := fun hj => hA.ld hj (by decide)
    simp (disch := first | assumption | omega | exact tb_sm0 | exact tb_sm1 _ | exact tb_sm2 _ _ | exact tb_sm3 _ _ _ | exact tb_sm4 _ _ _ _ | exact Or.inl rfl | exact Or.inr rfl | fail) only [r96_2, r96_3, r96_6, nI_add, pk_mul, e_sub, e_div, tb_nmod, e_dec, e_le, e_lt, e_eq, e_eq0, e_lt0, e_0le, e_0lt, e_le0, if_true, if_false, not_true_eq_false, not_false_eq_true, ite_true, ite_false, Nat.reduceAdd, Nat.reduceMul, Nat.reduceLeDiff, Nat.reduceLT, Nat.reduceEqDiff, Nat.reduceSub, ↓reduceIte, Nat.reduceDiv, Nat.reduceMod]
    rw [if_neg (by omega)]
    simp (disch := first | assumption | omega | exact tb_sm0 | exact tb_sm1 _ | exact tb_sm2 _ _ | exact tb_sm3 _ _ _ | exact tb_sm4 _ _ _ _ | exact Or.inl rfl | exact Or.inr rfl | fail) only [r96_0, r96_1, r96_3, r96_6, r96_9, r96_10, r96_13, r96_14, r96_15, r96_18, r96_19, r96_20, r96_21, r96_24, r96_27, g1, g2, ld, tb_vl_some, tb_vl_none, tb_wF_some, nI_add, pk_mul, e_sub, e_div, tb_nmod, e_dec, e_le, e_lt, e_eq, e_eq0, e_lt0, e_0le, e_0lt, e_le0, if_true, if_false, not_true_eq_false, not_false_eq_true, ite_true, ite_false, Nat.reduceAdd, Nat.reduceMul, Nat.reduceLeDiff, Nat.reduceLT, Nat.reduceEqDiff, Nat.reduceSub, ↓reduceIte, Nat.reduceDiv, Nat.reduceMod]
    refine hB.st (by omega) (by decide) (fun h2 hB2 hF2 => ?_)
    refine ih (i + 1) h2 _ (by omega) (by rw [hF2 _ (by omega), hm]) (hA.to (hF2 _ (by omega)) (fun _ _ => rfl)) hB2 (fun j hj => ?_) (fun h3 h31 h32 => hQ h3 h31 (fun q hq => by rw [h32 q hq, hF2 q hq]))
    unfold upd
    by_cases c : j = i
    · rw [if_pos c, c]
    · rw [if_neg c]; exact hF j (by omega)
theorem m_looks {m : Nat} {g F : Nat → Int32} {kp kn le sa sb po wr sp : Int32} (h0 : tb_Mo h m kp kn le sa sb po wr sp) (hA : tb_isA h (m + 1) 0 368 g) (hB : tb_isA h (m + 3) 0 368 F) (hQ : ∀ h', tb_isA h' (m + 3) 0 368 g → (∀ q, q ≠ m + 3 → h' q = h q) → Q none h' nx) :
    tb_wp E d 96 0 [.ref m, .long 0] [] h nx 0 0 Q := by
  simp (disch := first | assumption | omega | exact tb_sm0 | exact tb_sm1 _ | exact tb_sm2 _ _ | exact tb_sm3 _ _ _ | exact tb_sm4 _ _ _ _ | exact Or.inl rfl | exact Or.inr rfl | fail) only [r96_0, r96_1]
  refine m_looks_l (ob := h m) (fun h' hh => ?_) 368 0 h F rfl rfl hA hB (fun j hj => by omega) hQ
  have h0' : tb_Mo h' m kp kn le sa sb po wr sp := by unfold tb_Mo; rw [hh]; exact h0
  have g := h0'.g
  simp only [g, and_self]
theorem m_putAside_l {m : Nat} {g : Nat → Int32} {ob : Option tb_cell} (ho : ∀ h' : tb_heap, h' m = ob → tb_gf h' m 6 1 = some (.ref (m + 2)) ∧ tb_gf h' m 6 0 = some (.ref (m + 1))) (n : Nat) : ∀ (i : Nat) (h : tb_heap) (F : Nat → Int32), i + n = 368 → h m = ob → tb_isA h (m + 1) 0 368 g → tb_isA h (m + 2) 0 368 F → (∀ j, j < i → F j = g j) → (∀ h', tb_isA h' (m + 2) 0 368 g → (∀ q, q ≠ m + 2 → h' q = h q) → Q none h' nx) →
    tb_wp E d 98 2 [.ref m, .int (nI i)] [] h nx 0 0 Q := by
  induction n with
  | zero =>
    intro i h F hi hm hA hB hF hQ
    simp (disch := first | assumption | omega | exact tb_sm0 | exact tb_sm1 _ | exact tb_sm2 _ _ | exact tb_sm3 _ _ _ | exact tb_sm4 _ _ _ _ | exact Or.inl rfl | exact Or.inr rfl | fail) only [r98_2, r98_3, r98_6, nI_add, pk_mul, e_sub, e_div, tb_nmod, e_dec, e_le, e_lt, e_eq, e_eq0, e_lt0, e_0le, e_0lt, e_le0, if_true, if_false, not_true_eq_false, not_false_eq_true, ite_true, ite_false, Nat.reduceAdd, Nat.reduceMul, Nat.reduceLeDiff, Nat.reduceLT, Nat.reduceEqDiff, Nat.reduceSub, ↓reduceIte, Nat.reduceDiv, Nat.reduceMod]
    rw [if_pos (by omega)]
    simp (disch := first | assumption | omega | exact tb_sm0 | exact tb_sm1 _ | exact tb_sm2 _ _ | exact tb_sm3 _ _ _ | exact tb_sm4 _ _ _ _ | exact Or.inl rfl | exact Or.inr rfl | fail) only [r98_27]
    exact hQ h (hB.to rfl (fun j hj => hF j (by omega))) (fun _ _ => rfl)
  | succ n ih =>
    intro i h F hi hm hA hB hF hQ
    obtain ⟨g1, g2⟩ := ho h hm
    have ld : ∀ {j : Nat} (hj : j < 368) {K : Int32 → Prop}, tb_wF (tb_ld E h 0 (m + 1) (nI j)) K = K (g j) := fun hj => hA.ld hj (by decide)
    simp (disch := first | assumption | omega | exact tb_sm0 | exact tb_sm1 _ | exact tb_sm2 _ _ | exact tb_sm3 _ _ _ | exact tb_sm4 _ _ _ _ | exact Or.inl rfl | exact Or.inr rfl | fail) only [r98_2, r98_3, r98_6, nI_add, pk_mul, e_sub, e_div, tb_nmod, e_dec, e_le, e_lt, e_eq, e_eq0, e_lt0, e_0le, e_0lt, e_le0, if_true, if_false, not_true_eq_false, not_false_eq_true, ite_true, ite_false, Nat.reduceAdd, Nat.reduceMul, Nat.reduceLeDiff, Nat.reduceLT, Nat.reduceEqDiff, Nat.reduceSub, ↓reduceIte, Nat.reduceDiv, Nat.reduceMod]
    rw [if_neg (by omega)]
    simp (disch := first | assumption | omega | exact tb_sm0 | exact tb_sm1 _ | exact tb_sm2 _ _ | exact tb_sm3 _ _ _ | exact tb_sm4 _ _ _ _ | exact Or.inl rfl | exact Or.inr rfl | fail) only [r98_0, r98_1, r98_3, r98_6, r98_9, r98_10, r98_13, r98_14, r98_15, r98_18, r98_19, r98_20, r98_21, r98_24, r98_27, g1, g2, ld, tb_vl_some, tb_vl_none, tb_wF_some, nI_add, pk_mul, e_sub, e_div, tb_nmod, e_dec, e_le, e_lt, e_eq, e_eq0, e_lt0, e_0le, e_0lt, e_le0, if_true, if_false, not_true_eq_false, not_false_eq_true, ite_true, ite_false, Nat.reduceAdd, Nat.reduceMul, Nat.reduceLeDiff, Nat.reduceLT, Nat.reduceEqDiff, Nat.reduceSub, ↓reduceIte, Nat.reduceDiv, Nat.reduceMod]
    refine hB.st (by omega) (by decide) (fun h2 hB2 hF2 => ?_)
    refine ih (i + 1) h2 _ (by omega) (by rw [hF2 _ (by omega), hm]) (hA.to (hF2 _ (by omega)) (fun _ _ => rfl)) hB2 (fun j hj => ?_) (fun h3 h31 h32 => hQ h3 h31 (fun q hq => by rw [h32 q hq, hF2 q hq]))
    unfold upd
    by_cases c : j = i
    · rw [if_pos c, c]
    · rw [if_neg c]; exact hF j (by omega)
theorem m_putAside {m : Nat} {g F : Nat → Int32} {kp kn le sa sb po wr sp : Int32} (h0 : tb_Mo h m kp kn le sa sb po wr sp) (hA : tb_isA h (m + 1) 0 368 g) (hB : tb_isA h (m + 2) 0 368 F) (hQ : ∀ h', tb_isA h' (m + 2) 0 368 g → (∀ q, q ≠ m + 2 → h' q = h q) → Q none h' nx) :
    tb_wp E d 98 0 [.ref m, .long 0] [] h nx 0 0 Q := by
  simp (disch := first | assumption | omega | exact tb_sm0 | exact tb_sm1 _ | exact tb_sm2 _ _ | exact tb_sm3 _ _ _ | exact tb_sm4 _ _ _ _ | exact Or.inl rfl | exact Or.inr rfl | fail) only [r98_0, r98_1]
  refine m_putAside_l (ob := h m) (fun h' hh => ?_) 368 0 h F rfl rfl hA hB (fun j hj => by omega) hQ
  have h0' : tb_Mo h' m kp kn le sa sb po wr sp := by unfold tb_Mo; rw [hh]; exact h0
  have g := h0'.g
  simp only [g, and_self]
theorem m_putBack_l {m : Nat} {g : Nat → Int32} {ob : Option tb_cell} (ho : ∀ h' : tb_heap, h' m = ob → tb_gf h' m 6 0 = some (.ref (m + 1)) ∧ tb_gf h' m 6 1 = some (.ref (m + 2))) (n : Nat) : ∀ (i : Nat) (h : tb_heap) (F : Nat → Int32), i + n = 368 → h m = ob → tb_isA h (m + 2) 0 368 g → tb_isA h (m + 1) 0 368 F → (∀ j, j < i → F j = g j) → (∀ h', tb_isA h' (m + 1) 0 368 g → (∀ q, q ≠ m + 1 → h' q = h q) → Q none h' nx) →
    tb_wp E d 99 2 [.ref m, .int (nI i)] [] h nx 0 0 Q := by
  induction n with
  | zero =>
    intro i h F hi hm hA hB hF hQ
    simp (disch := first | assumption | omega | exact tb_sm0 | exact tb_sm1 _ | exact tb_sm2 _ _ | exact tb_sm3 _ _ _ | exact tb_sm4 _ _ _ _ | exact Or.inl rfl | exact Or.inr rfl | fail) only [r99_2, r99_3, r99_6, nI_add, pk_mul, e_sub, e_div, tb_nmod, e_dec, e_le, e_lt, e_eq, e_eq0, e_lt0, e_0le, e_0lt, e_le0, if_true, if_false, not_true_eq_false, not_false_eq_true, ite_true, ite_false, Nat.reduceAdd, Nat.reduceMul, Nat.reduceLeDiff, Nat.reduceLT, Nat.reduceEqDiff, Nat.reduceSub, ↓reduceIte, Nat.reduceDiv, Nat.reduceMod]
    rw [if_pos (by omega)]
    simp (disch := first | assumption | omega | exact tb_sm0 | exact tb_sm1 _ | exact tb_sm2 _ _ | exact tb_sm3 _ _ _ | exact tb_sm4 _ _ _ _ | exact Or.inl rfl | exact Or.inr rfl | fail) only [r99_27]
    exact hQ h (hB.to rfl (fun j hj => hF j (by omega))) (fun _ _ => rfl)
  | succ n ih =>
    intro i h F hi hm hA hB hF hQ
    obtain ⟨g1, g2⟩ := ho h hm
    have ld : ∀ {j : Nat} (hj : j < 368) {K : Int32 → Prop}, tb_wF (tb_ld E h 0 (m + 2) (nI j)) K = K (g j) := fun hj => hA.ld hj (by decide)
    simp (disch := first | assumption | omega | exact tb_sm0 | exact tb_sm1 _ | exact tb_sm2 _ _ | exact tb_sm3 _ _ _ | exact tb_sm4 _ _ _ _ | exact Or.inl rfl | exact Or.inr rfl | fail) only [r99_2, r99_3, r99_6, nI_add, pk_mul, e_sub, e_div, tb_nmod, e_dec, e_le, e_lt, e_eq, e_eq0, e_lt0, e_0le, e_0lt, e_le0, if_true, if_false, not_true_eq_false, not_false_eq_true, ite_true, ite_false, Nat.reduceAdd, Nat.reduceMul, Nat.reduceLeDiff, Nat.reduceLT, Nat.reduceEqDiff, Nat.reduceSub, ↓reduceIte, Nat.reduceDiv, Nat.reduceMod]
    rw [if_neg (by omega)]
    simp (disch := first | assumption | omega | exact tb_sm0 | exact tb_sm1 _ | exact tb_sm2 _ _ | exact tb_sm3 _ _ _ | exact tb_sm4 _ _ _ _ | exact Or.inl rfl | exact Or.inr rfl | fail) only [r99_0, r99_1, r99_3, r99_6, r99_9, r99_10, r99_13, r99_14, r99_15, r99_18, r99_19, r99_20, r99_21, r99_24, r99_27, g1, g2, ld, tb_vl_some, tb_vl_none, tb_wF_some, nI_add, pk_mul, e_sub, e_div, tb_nmod, e_dec, e_le, e_lt, e_eq, e_eq0, e_lt0, e_0le, e_0lt, e_le0, if_true, if_false, not_true_eq_false, not_false_eq_true, ite_true, ite_false, Nat.reduceAdd, Nat.reduceMul, Nat.reduceLeDiff, Nat.reduceLT, Nat.reduceEqDiff, Nat.reduceSub, ↓reduceIte, Nat.reduceDiv, Nat.reduceMod]
    refine hB.st (by omega) (by decide) (fun h2 hB2 hF2 => ?_)
    refine ih (i + 1) h2 _ (by omega) (by rw [hF2 _ (by omega), hm]) (hA.to (hF2 _ (by omega)) (fun _ _ => rfl)) hB2 (fun j hj => ?_) (fun h3 h31 h32 => hQ h3 h31 (fun q hq => by rw [h32 q hq, hF2 q hq]))
    unfold upd
    by_cases c : j = i
    · rw [if_pos c, c]
    · rw [if_neg c]; exact hF j (by omega)
theorem m_putBack {m : Nat} {g F : Nat → Int32} {kp kn le sa sb po wr sp : Int32} (h0 : tb_Mo h m kp kn le sa sb po wr sp) (hA : tb_isA h (m + 2) 0 368 g) (hB : tb_isA h (m + 1) 0 368 F) (hQ : ∀ h', tb_isA h' (m + 1) 0 368 g → (∀ q, q ≠ m + 1 → h' q = h q) → Q none h' nx) :
    tb_wp E d 99 0 [.ref m, .long 0] [] h nx 0 0 Q := by
  simp (disch := first | assumption | omega | exact tb_sm0 | exact tb_sm1 _ | exact tb_sm2 _ _ | exact tb_sm3 _ _ _ | exact tb_sm4 _ _ _ _ | exact Or.inl rfl | exact Or.inr rfl | fail) only [r99_0, r99_1]
  refine m_putBack_l (ob := h m) (fun h' hh => ?_) 368 0 h F rfl rfl hA hB (fun j hj => by omega) hQ
  have h0' : tb_Mo h' m kp kn le sa sb po wr sp := by unfold tb_Mo; rw [hh]; exact h0
  have g := h0'.g
  simp only [g, and_self]
theorem m_heaps_l {m : Nat} {b : Nat} {s : Nat → Nat} (hM : tb_MS h m s) (hI : sp_I s) (hb : b < 5) (n : Nat) : ∀ i, i + n = 32 → tb_wp E d 114 4 [.ref m, .int (nI b), .int (nI (sp_acc (fun j => if 0 < s (48 + 32 * b + j) then 1 else 0) i)), .int (nI i)] [] h nx 0 0 Q = Q (some (.int (nI (sp_acc (fun j => if 0 < s (48 + 32 * b + j) then 1 else 0) 32)))) h nx := by
  have g := hM.g
  induction n with
  | zero =>
    intro i hi
    simp (disch := first | assumption | omega | exact tb_sm0 | exact tb_sm1 _ | exact tb_sm2 _ _ | exact tb_sm3 _ _ _ | exact tb_sm4 _ _ _ _ | exact Or.inl rfl | exact Or.inr rfl | fail) only [r114_4, r114_5, r114_7, nI_add, pk_mul, e_sub, e_div, tb_nmod, e_dec, e_le, e_lt, e_eq, e_eq0, e_lt0, e_0le, e_0lt, e_le0, if_true, if_false, not_true_eq_false, not_false_eq_true, ite_true, ite_false, Nat.reduceAdd, Nat.reduceMul, Nat.reduceLeDiff, Nat.reduceLT, Nat.reduceEqDiff, Nat.reduceSub, ↓reduceIte, Nat.reduceDiv, Nat.reduceMod]
    rw [if_pos (by omega), show i = 32 by omega]
    simp (disch := first | assumption | omega | exact tb_sm0 | exact tb_sm1 _ | exact tb_sm2 _ _ | exact tb_sm3 _ _ _ | exact tb_sm4 _ _ _ _ | exact Or.inl rfl | exact Or.inr rfl | fail) only [r114_0, r114_1, r114_2, r114_3, r114_5, r114_7, r114_10, r114_11, r114_12, r114_15, r114_17, r114_19, r114_20, r114_21, r114_22, r114_23, r114_24, r114_25, r114_28, r114_29, r114_32, r114_33, r114_34, r114_35, r114_38, r114_41, r114_42]
  | succ n ih =>
    intro i hi
    simp (disch := first | assumption | omega | exact tb_sm0 | exact tb_sm1 _ | exact tb_sm2 _ _ | exact tb_sm3 _ _ _ | exact tb_sm4 _ _ _ _ | exact Or.inl rfl | exact Or.inr rfl | fail) only [r114_4, r114_5, r114_7, nI_add, pk_mul, e_sub, e_div, tb_nmod, e_dec, e_le, e_lt, e_eq, e_eq0, e_lt0, e_0le, e_0lt, e_le0, if_true, if_false, not_true_eq_false, not_false_eq_true, ite_true, ite_false, Nat.reduceAdd, Nat.reduceMul, Nat.reduceLeDiff, Nat.reduceLT, Nat.reduceEqDiff, Nat.reduceSub, ↓reduceIte, Nat.reduceDiv, Nat.reduceMod]
    rw [if_neg (by omega)]
    have hj := sp_hp_le hI hb (show i < 32 by omega)
    by_cases c : 0 < s (48 + 32 * b + i)
    · have c' : ¬ s (48 + 32 * b + i) = 0 := by omega
      simp (disch := first | assumption | omega | exact tb_sm0 | exact tb_sm1 _ | exact tb_sm2 _ _ | exact tb_sm3 _ _ _ | exact tb_sm4 _ _ _ _ | exact Or.inl rfl | exact Or.inr rfl | fail) only [r114_0, r114_1, r114_2, r114_3, r114_5, r114_7, r114_10, r114_11, r114_12, r114_15, r114_17, r114_19, r114_20, r114_21, r114_22, r114_23, r114_24, r114_25, r114_28, r114_29, r114_32, r114_33, r114_34, r114_35, r114_38, r114_41, r114_42, g, hM.ld, c', tb_vl_some, tb_vl_none, tb_wF_some, nI_add, pk_mul, e_sub, e_div, tb_nmod, e_dec, e_le, e_lt, e_eq, e_eq0, e_lt0, e_0le, e_0lt, e_le0, if_true, if_false, not_true_eq_false, not_false_eq_true, ite_true, ite_false, Nat.reduceAdd, Nat.reduceMul, Nat.reduceLeDiff, Nat.reduceLT, Nat.reduceEqDiff, Nat.reduceSub, ↓reduceIte, Nat.reduceDiv, Nat.reduceMod]
      have := ih (i + 1) (by omega)
      simp only [sp_acc, c, if_true] at this
      exact this
    · have c' : s (48 + 32 * b + i) = 0 := by omega
      simp (disch := first | assumption | omega | exact tb_sm0 | exact tb_sm1 _ | exact tb_sm2 _ _ | exact tb_sm3 _ _ _ | exact tb_sm4 _ _ _ _ | exact Or.inl rfl | exact Or.inr rfl | fail) only [r114_0, r114_1, r114_2, r114_3, r114_5, r114_7, r114_10, r114_11, r114_12, r114_15, r114_17, r114_19, r114_20, r114_21, r114_22, r114_23, r114_24, r114_25, r114_28, r114_29, r114_32, r114_33, r114_34, r114_35, r114_38, r114_41, r114_42, g, hM.ld, c', tb_vl_some, tb_vl_none, tb_wF_some, nI_add, pk_mul, e_sub, e_div, tb_nmod, e_dec, e_le, e_lt, e_eq, e_eq0, e_lt0, e_0le, e_0lt, e_le0, if_true, if_false, not_true_eq_false, not_false_eq_true, ite_true, ite_false, Nat.reduceAdd, Nat.reduceMul, Nat.reduceLeDiff, Nat.reduceLT, Nat.reduceEqDiff, Nat.reduceSub, ↓reduceIte, Nat.reduceDiv, Nat.reduceMod]
      have := ih (i + 1) (by omega)
      simp only [sp_acc, c, if_false] at this
      exact this
theorem m_heaps {m : Nat} {b : Nat} {s : Nat → Nat} (hM : tb_MS h m s) (hI : sp_I s) (hb : b < 5) : tb_wp E d 114 0 [.ref m, .int (nI b), .long 0, .long 0] [] h nx 0 0 Q = Q (some (.int (nI (sp_acc (fun j => if 0 < s (48 + 32 * b + j) then 1 else 0) 32)))) h nx := by
  simp (disch := first | assumption | omega | exact tb_sm0 | exact tb_sm1 _ | exact tb_sm2 _ _ | exact tb_sm3 _ _ _ | exact tb_sm4 _ _ _ _ | exact Or.inl rfl | exact Or.inr rfl | fail) only [r114_0, r114_1, r114_2, r114_3, r114_5, r114_7, r114_10, r114_11, r114_12, r114_15, r114_17, r114_19, r114_20, r114_21, r114_22, r114_23, r114_24, r114_25, r114_28, r114_29, r114_32, r114_33, r114_34, r114_35, r114_38, r114_41, r114_42]
  exact m_heaps_l hM hI hb 32 0 (by omega)
theorem m_movingHeaps_l {m : Nat} {b : Nat} {s : Nat → Nat} (hM : tb_MS h m s) (hI : sp_I s) (hb : b < 5) (n : Nat) : ∀ i, i + n = 32 → tb_wp E d 140 4 [.ref m, .int (nI b), .int (nI (sp_acc (fun j => if 0 < s (48 + 32 * b + j) then s (208 + 32 * b + j) else 0) i)), .int (nI i)] [] h nx 0 0 Q = Q (some (.int (nI (sp_acc (fun j => if 0 < s (48 + 32 * b + j) then s (208 + 32 * b + j) else 0) 32)))) h nx := by
  have g := hM.g
  induction n with
  | zero =>
    intro i hi
    simp (disch := first | assumption | omega | exact tb_sm0 | exact tb_sm1 _ | exact tb_sm2 _ _ | exact tb_sm3 _ _ _ | exact tb_sm4 _ _ _ _ | exact Or.inl rfl | exact Or.inr rfl | fail) only [r140_4, r140_5, r140_7, nI_add, pk_mul, e_sub, e_div, tb_nmod, e_dec, e_le, e_lt, e_eq, e_eq0, e_lt0, e_0le, e_0lt, e_le0, if_true, if_false, not_true_eq_false, not_false_eq_true, ite_true, ite_false, Nat.reduceAdd, Nat.reduceMul, Nat.reduceLeDiff, Nat.reduceLT, Nat.reduceEqDiff, Nat.reduceSub, ↓reduceIte, Nat.reduceDiv, Nat.reduceMod]
    rw [if_pos (by omega), show i = 32 by omega]
    simp (disch := first | assumption | omega | exact tb_sm0 | exact tb_sm1 _ | exact tb_sm2 _ _ | exact tb_sm3 _ _ _ | exact tb_sm4 _ _ _ _ | exact Or.inl rfl | exact Or.inr rfl | fail) only [r140_0, r140_1, r140_2, r140_3, r140_5, r140_7, r140_10, r140_11, r140_12, r140_15, r140_17, r140_19, r140_20, r140_21, r140_22, r140_23, r140_24, r140_25, r140_28, r140_29, r140_32, r140_35, r140_37, r140_38, r140_39, r140_40, r140_41, r140_42, r140_43, r140_46, r140_47, r140_48, r140_49, r140_52, r140_55, r140_56]
  | succ n ih =>
    intro i hi
    simp (disch := first | assumption | omega | exact tb_sm0 | exact tb_sm1 _ | exact tb_sm2 _ _ | exact tb_sm3 _ _ _ | exact tb_sm4 _ _ _ _ | exact Or.inl rfl | exact Or.inr rfl | fail) only [r140_4, r140_5, r140_7, nI_add, pk_mul, e_sub, e_div, tb_nmod, e_dec, e_le, e_lt, e_eq, e_eq0, e_lt0, e_0le, e_0lt, e_le0, if_true, if_false, not_true_eq_false, not_false_eq_true, ite_true, ite_false, Nat.reduceAdd, Nat.reduceMul, Nat.reduceLeDiff, Nat.reduceLT, Nat.reduceEqDiff, Nat.reduceSub, ↓reduceIte, Nat.reduceDiv, Nat.reduceMod]
    rw [if_neg (by omega)]
    have hj := sp_hp_le hI hb (show i < 32 by omega)
    by_cases c : 0 < s (48 + 32 * b + i)
    · have c' : ¬ s (48 + 32 * b + i) = 0 := by omega
      simp (disch := first | assumption | omega | exact tb_sm0 | exact tb_sm1 _ | exact tb_sm2 _ _ | exact tb_sm3 _ _ _ | exact tb_sm4 _ _ _ _ | exact Or.inl rfl | exact Or.inr rfl | fail) only [r140_0, r140_1, r140_2, r140_3, r140_5, r140_7, r140_10, r140_11, r140_12, r140_15, r140_17, r140_19, r140_20, r140_21, r140_22, r140_23, r140_24, r140_25, r140_28, r140_29, r140_32, r140_35, r140_37, r140_38, r140_39, r140_40, r140_41, r140_42, r140_43, r140_46, r140_47, r140_48, r140_49, r140_52, r140_55, r140_56, g, hM.ld, c', tb_vl_some, tb_vl_none, tb_wF_some, nI_add, pk_mul, e_sub, e_div, tb_nmod, e_dec, e_le, e_lt, e_eq, e_eq0, e_lt0, e_0le, e_0lt, e_le0, if_true, if_false, not_true_eq_false, not_false_eq_true, ite_true, ite_false, Nat.reduceAdd, Nat.reduceMul, Nat.reduceLeDiff, Nat.reduceLT, Nat.reduceEqDiff, Nat.reduceSub, ↓reduceIte, Nat.reduceDiv, Nat.reduceMod]
      have := ih (i + 1) (by omega)
      simp only [sp_acc, c, if_true] at this
      exact this
    · have c' : s (48 + 32 * b + i) = 0 := by omega
      simp (disch := first | assumption | omega | exact tb_sm0 | exact tb_sm1 _ | exact tb_sm2 _ _ | exact tb_sm3 _ _ _ | exact tb_sm4 _ _ _ _ | exact Or.inl rfl | exact Or.inr rfl | fail) only [r140_0, r140_1, r140_2, r140_3, r140_5, r140_7, r140_10, r140_11, r140_12, r140_15, r140_17, r140_19, r140_20, r140_21, r140_22, r140_23, r140_24, r140_25, r140_28, r140_29, r140_32, r140_35, r140_37, r140_38, r140_39, r140_40, r140_41, r140_42, r140_43, r140_46, r140_47, r140_48, r140_49, r140_52, r140_55, r140_56, g, hM.ld, c', tb_vl_some, tb_vl_none, tb_wF_some, nI_add, pk_mul, e_sub, e_div, tb_nmod, e_dec, e_le, e_lt, e_eq, e_eq0, e_lt0, e_0le, e_0lt, e_le0, if_true, if_false, not_true_eq_false, not_false_eq_true, ite_true, ite_false, Nat.reduceAdd, Nat.reduceMul, Nat.reduceLeDiff, Nat.reduceLT, Nat.reduceEqDiff, Nat.reduceSub, ↓reduceIte, Nat.reduceDiv, Nat.reduceMod]
      have := ih (i + 1) (by omega)
      simp only [sp_acc, c, if_false] at this
      exact this
theorem m_movingHeaps {m : Nat} {b : Nat} {s : Nat → Nat} (hM : tb_MS h m s) (hI : sp_I s) (hb : b < 5) : tb_wp E d 140 0 [.ref m, .int (nI b), .long 0, .long 0] [] h nx 0 0 Q = Q (some (.int (nI (sp_acc (fun j => if 0 < s (48 + 32 * b + j) then s (208 + 32 * b + j) else 0) 32)))) h nx := by
  simp (disch := first | assumption | omega | exact tb_sm0 | exact tb_sm1 _ | exact tb_sm2 _ _ | exact tb_sm3 _ _ _ | exact tb_sm4 _ _ _ _ | exact Or.inl rfl | exact Or.inr rfl | fail) only [r140_0, r140_1, r140_2, r140_3, r140_5, r140_7, r140_10, r140_11, r140_12, r140_15, r140_17, r140_19, r140_20, r140_21, r140_22, r140_23, r140_24, r140_25, r140_28, r140_29, r140_32, r140_35, r140_37, r140_38, r140_39, r140_40, r140_41, r140_42, r140_43, r140_46, r140_47, r140_48, r140_49, r140_52, r140_55, r140_56]
  exact m_movingHeaps_l hM hI hb 32 0 (by omega)
theorem m_fell_l {m : Nat} {s : Nat → Nat} (hM : tb_MS h m s)  (n : Nat) : ∀ i, i + n = 5 → tb_wp E d 109 4 [.ref m, .int (nI (sp_acc (fun j => s (18 + j)) i)), .int (nI i)] [] h nx 0 0 Q = Q (some (.int (nI (sp_acc (fun j => s (18 + j)) 5)))) h nx := by
  have g := hM.g
  induction n with
  | zero =>
    intro i hi
    simp (disch := first | assumption | omega | exact tb_sm0 | exact tb_sm1 _ | exact tb_sm2 _ _ | exact tb_sm3 _ _ _ | exact tb_sm4 _ _ _ _ | exact Or.inl rfl | exact Or.inr rfl | fail) only [r109_4, r109_5, r109_6, nI_add, pk_mul, e_sub, e_div, tb_nmod, e_dec, e_le, e_lt, e_eq, e_eq0, e_lt0, e_0le, e_0lt, e_le0, if_true, if_false, not_true_eq_false, not_false_eq_true, ite_true, ite_false, Nat.reduceAdd, Nat.reduceMul, Nat.reduceLeDiff, Nat.reduceLT, Nat.reduceEqDiff, Nat.reduceSub, ↓reduceIte, Nat.reduceDiv, Nat.reduceMod]
    rw [if_pos (by omega), show i = 5 by omega]
    simp (disch := first | assumption | omega | exact tb_sm0 | exact tb_sm1 _ | exact tb_sm2 _ _ | exact tb_sm3 _ _ _ | exact tb_sm4 _ _ _ _ | exact Or.inl rfl | exact Or.inr rfl | fail) only [r109_0, r109_1, r109_2, r109_3, r109_5, r109_6, r109_9, r109_10, r109_11, r109_14, r109_16, r109_17, r109_18, r109_19, r109_20, r109_21, r109_24, r109_27, r109_28]
  | succ n ih =>
    intro i hi
    simp (disch := first | assumption | omega | exact tb_sm0 | exact tb_sm1 _ | exact tb_sm2 _ _ | exact tb_sm3 _ _ _ | exact tb_sm4 _ _ _ _ | exact Or.inl rfl | exact Or.inr rfl | fail) only [r109_4, r109_5, r109_6, nI_add, pk_mul, e_sub, e_div, tb_nmod, e_dec, e_le, e_lt, e_eq, e_eq0, e_lt0, e_0le, e_0lt, e_le0, if_true, if_false, not_true_eq_false, not_false_eq_true, ite_true, ite_false, Nat.reduceAdd, Nat.reduceMul, Nat.reduceLeDiff, Nat.reduceLT, Nat.reduceEqDiff, Nat.reduceSub, ↓reduceIte, Nat.reduceDiv, Nat.reduceMod]
    rw [if_neg (by omega)]
    simp (disch := first | assumption | omega | exact tb_sm0 | exact tb_sm1 _ | exact tb_sm2 _ _ | exact tb_sm3 _ _ _ | exact tb_sm4 _ _ _ _ | exact Or.inl rfl | exact Or.inr rfl | fail) only [r109_0, r109_1, r109_2, r109_3, r109_5, r109_6, r109_9, r109_10, r109_11, r109_14, r109_16, r109_17, r109_18, r109_19, r109_20, r109_21, r109_24, r109_27, r109_28, g, hM.ld, tb_vl_some, tb_vl_none, tb_wF_some, nI_add, pk_mul, e_sub, e_div, tb_nmod, e_dec, e_le, e_lt, e_eq, e_eq0, e_lt0, e_0le, e_0lt, e_le0, if_true, if_false, not_true_eq_false, not_false_eq_true, ite_true, ite_false, Nat.reduceAdd, Nat.reduceMul, Nat.reduceLeDiff, Nat.reduceLT, Nat.reduceEqDiff, Nat.reduceSub, ↓reduceIte, Nat.reduceDiv, Nat.reduceMod]
    exact ih (i + 1) (by omega)
theorem m_fell {m : Nat} {s : Nat → Nat} (hM : tb_MS h m s)  : tb_wp E d 109 0 [.ref m, .long 0, .long 0] [] h nx 0 0 Q = Q (some (.int (nI (sp_acc (fun j => s (18 + j)) 5)))) h nx := by
  simp (disch := first | assumption | omega | exact tb_sm0 | exact tb_sm1 _ | exact tb_sm2 _ _ | exact tb_sm3 _ _ _ | exact tb_sm4 _ _ _ _ | exact Or.inl rfl | exact Or.inr rfl | fail) only [r109_0, r109_1, r109_2, r109_3, r109_5, r109_6, r109_9, r109_10, r109_11, r109_14, r109_16, r109_17, r109_18, r109_19, r109_20, r109_21, r109_24, r109_27, r109_28]
  exact m_fell_l hM  5 0 (by omega)
theorem m_sumOf_l {m : Nat} {b w : Nat} {s : Nat → Nat} (hM : tb_MS h m s) (hw : w < 1000) (hbw : ∀ j, j < w → b + 4 * j < 368) (n : Nat) : ∀ i, i + n = w → tb_wp E d 143 5 [.ref m, .int (nI b), .int (nI w), .int (nI (sp_acc (fun j => s (b + 4 * j)) i)), .int (nI i)] [] h nx 0 0 Q = Q (some (.int (nI (sp_acc (fun j => s (b + 4 * j)) w)))) h nx := by
  have g := hM.g
  induction n with
  | zero =>
    intro i hi
    simp (disch := first | assumption | omega | exact tb_sm0 | exact tb_sm1 _ | exact tb_sm2 _ _ | exact tb_sm3 _ _ _ | exact tb_sm4 _ _ _ _ | exact Or.inl rfl | exact Or.inr rfl | fail) only [r143_5, r143_7, r143_8, nI_add, pk_mul, e_sub, e_div, tb_nmod, e_dec, e_le, e_lt, e_eq, e_eq0, e_lt0, e_0le, e_0lt, e_le0, if_true, if_false, not_true_eq_false, not_false_eq_true, ite_true, ite_false, Nat.reduceAdd, Nat.reduceMul, Nat.reduceLeDiff, Nat.reduceLT, Nat.reduceEqDiff, Nat.reduceSub, ↓reduceIte, Nat.reduceDiv, Nat.reduceMod]
    rw [if_pos (by omega), show i = w by omega]
    simp (disch := first | assumption | omega | exact tb_sm0 | exact tb_sm1 _ | exact tb_sm2 _ _ | exact tb_sm3 _ _ _ | exact tb_sm4 _ _ _ _ | exact Or.inl rfl | exact Or.inr rfl | fail) only [r143_0, r143_1, r143_2, r143_3, r143_7, r143_8, r143_11, r143_12, r143_13, r143_16, r143_17, r143_18, r143_20, r143_21, r143_22, r143_23, r143_24, r143_25, r143_28, r143_31, r143_32]
  | succ n ih =>
    intro i hi
    have hb2 := hbw i (by omega)
    simp (disch := first | assumption | omega | exact tb_sm0 | exact tb_sm1 _ | exact tb_sm2 _ _ | exact tb_sm3 _ _ _ | exact tb_sm4 _ _ _ _ | exact Or.inl rfl | exact Or.inr rfl | fail) only [r143_5, r143_7, r143_8, nI_add, pk_mul, e_sub, e_div, tb_nmod, e_dec, e_le, e_lt, e_eq, e_eq0, e_lt0, e_0le, e_0lt, e_le0, if_true, if_false, not_true_eq_false, not_false_eq_true, ite_true, ite_false, Nat.reduceAdd, Nat.reduceMul, Nat.reduceLeDiff, Nat.reduceLT, Nat.reduceEqDiff, Nat.reduceSub, ↓reduceIte, Nat.reduceDiv, Nat.reduceMod]
    rw [if_neg (by omega)]
    simp (disch := first | assumption | omega | exact tb_sm0 | exact tb_sm1 _ | exact tb_sm2 _ _ | exact tb_sm3 _ _ _ | exact tb_sm4 _ _ _ _ | exact Or.inl rfl | exact Or.inr rfl | fail) only [r143_0, r143_1, r143_2, r143_3, r143_7, r143_8, r143_11, r143_12, r143_13, r143_16, r143_17, r143_18, r143_20, r143_21, r143_22, r143_23, r143_24, r143_25, r143_28, r143_31, r143_32, g, hM.ld, tb_vl_some, tb_vl_none, tb_wF_some, nI_add, pk_mul, e_sub, e_div, tb_nmod, e_dec, e_le, e_lt, e_eq, e_eq0, e_lt0, e_0le, e_0lt, e_le0, if_true, if_false, not_true_eq_false, not_false_eq_true, ite_true, ite_false, Nat.reduceAdd, Nat.reduceMul, Nat.reduceLeDiff, Nat.reduceLT, Nat.reduceEqDiff, Nat.reduceSub, ↓reduceIte, Nat.reduceDiv, Nat.reduceMod]
    exact ih (i + 1) (by omega)
theorem m_sumOf {m : Nat} {b w : Nat} {s : Nat → Nat} (hM : tb_MS h m s) (hw : w < 1000) (hbw : ∀ j, j < w → b + 4 * j < 368) : tb_wp E d 143 0 [.ref m, .int (nI b), .int (nI w), .long 0, .long 0] [] h nx 0 0 Q = Q (some (.int (nI (sp_acc (fun j => s (b + 4 * j)) w)))) h nx := by
  simp (disch := first | assumption | omega | exact tb_sm0 | exact tb_sm1 _ | exact tb_sm2 _ _ | exact tb_sm3 _ _ _ | exact tb_sm4 _ _ _ _ | exact Or.inl rfl | exact Or.inr rfl | fail) only [r143_0, r143_1, r143_2, r143_3, r143_7, r143_8, r143_11, r143_12, r143_13, r143_16, r143_17, r143_18, r143_20, r143_21, r143_22, r143_23, r143_24, r143_25, r143_28, r143_31, r143_32]
  exact m_sumOf_l hM hw hbw w 0 (by omega)
theorem m_sum_l {m : Nat} {b w : Nat} {s : Nat → Nat} (hM : tb_MS h m s) (hw : w < 1000) (hbw : ∀ j, j < w → b + j < 368) (n : Nat) : ∀ i, i + n = w → tb_wp E d 153 5 [.ref m, .int (nI b), .int (nI w), .int (nI (sp_acc (fun j => s (b + j)) i)), .int (nI i)] [] h nx 0 0 Q = Q (some (.int (nI (sp_acc (fun j => s (b + j)) w)))) h nx := by
  have g := hM.g
  induction n with
  | zero =>
    intro i hi
    simp (disch := first | assumption | omega | exact tb_sm0 | exact tb_sm1 _ | exact tb_sm2 _ _ | exact tb_sm3 _ _ _ | exact tb_sm4 _ _ _ _ | exact Or.inl rfl | exact Or.inr rfl | fail) only [r153_5, r153_7, r153_8, nI_add, pk_mul, e_sub, e_div, tb_nmod, e_dec, e_le, e_lt, e_eq, e_eq0, e_lt0, e_0le, e_0lt, e_le0, if_true, if_false, not_true_eq_false, not_false_eq_true, ite_true, ite_false, Nat.reduceAdd, Nat.reduceMul, Nat.reduceLeDiff, Nat.reduceLT, Nat.reduceEqDiff, Nat.reduceSub, ↓reduceIte, Nat.reduceDiv, Nat.reduceMod]
    rw [if_pos (by omega), show i = w by omega]
    simp (disch := first | assumption | omega | exact tb_sm0 | exact tb_sm1 _ | exact tb_sm2 _ _ | exact tb_sm3 _ _ _ | exact tb_sm4 _ _ _ _ | exact Or.inl rfl | exact Or.inr rfl | fail) only [r153_0, r153_1, r153_2, r153_3, r153_7, r153_8, r153_11, r153_12, r153_13, r153_16, r153_17, r153_19, r153_20, r153_21, r153_22, r153_23, r153_26, r153_29, r153_30]
  | succ n ih =>
    intro i hi
    have hb2 := hbw i (by omega)
    simp (disch := first | assumption | omega | exact tb_sm0 | exact tb_sm1 _ | exact tb_sm2 _ _ | exact tb_sm3 _ _ _ | exact tb_sm4 _ _ _ _ | exact Or.inl rfl | exact Or.inr rfl | fail) only [r153_5, r153_7, r153_8, nI_add, pk_mul, e_sub, e_div, tb_nmod, e_dec, e_le, e_lt, e_eq, e_eq0, e_lt0, e_0le, e_0lt, e_le0, if_true, if_false, not_true_eq_false, not_false_eq_true, ite_true, ite_false, Nat.reduceAdd, Nat.reduceMul, Nat.reduceLeDiff, Nat.reduceLT, Nat.reduceEqDiff, Nat.reduceSub, ↓reduceIte, Nat.reduceDiv, Nat.reduceMod]
    rw [if_neg (by omega)]
    simp (disch := first | assumption | omega | exact tb_sm0 | exact tb_sm1 _ | exact tb_sm2 _ _ | exact tb_sm3 _ _ _ | exact tb_sm4 _ _ _ _ | exact Or.inl rfl | exact Or.inr rfl | fail) only [r153_0, r153_1, r153_2, r153_3, r153_7, r153_8, r153_11, r153_12, r153_13, r153_16, r153_17, r153_19, r153_20, r153_21, r153_22, r153_23, r153_26, r153_29, r153_30, g, hM.ld, tb_vl_some, tb_vl_none, tb_wF_some, nI_add, pk_mul, e_sub, e_div, tb_nmod, e_dec, e_le, e_lt, e_eq, e_eq0, e_lt0, e_0le, e_0lt, e_le0, if_true, if_false, not_true_eq_false, not_false_eq_true, ite_true, ite_false, Nat.reduceAdd, Nat.reduceMul, Nat.reduceLeDiff, Nat.reduceLT, Nat.reduceEqDiff, Nat.reduceSub, ↓reduceIte, Nat.reduceDiv, Nat.reduceMod]
    exact ih (i + 1) (by omega)
theorem m_sum {m : Nat} {b w : Nat} {s : Nat → Nat} (hM : tb_MS h m s) (hw : w < 1000) (hbw : ∀ j, j < w → b + j < 368) : tb_wp E d 153 0 [.ref m, .int (nI b), .int (nI w), .long 0, .long 0] [] h nx 0 0 Q = Q (some (.int (nI (sp_acc (fun j => s (b + j)) w)))) h nx := by
  simp (disch := first | assumption | omega | exact tb_sm0 | exact tb_sm1 _ | exact tb_sm2 _ _ | exact tb_sm3 _ _ _ | exact tb_sm4 _ _ _ _ | exact Or.inl rfl | exact Or.inr rfl | fail) only [r153_0, r153_1, r153_2, r153_3, r153_7, r153_8, r153_11, r153_12, r153_13, r153_16, r153_17, r153_19, r153_20, r153_21, r153_22, r153_23, r153_26, r153_29, r153_30]
  exact m_sum_l hM hw hbw w 0 (by omega)
end M4
