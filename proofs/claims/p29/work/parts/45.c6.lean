/-! THE CLASS: a state, what it tells -/
def tb_ba (a j : Nat) : Nat := a + 7 + 4 * j
def tb_So (h : tb_heap) (a : Nat) (em ti : Int32) : Prop := h a = some (.inl (4, [.ref (a + 1), .ref (a + 5), .ref (a + 6), .int em, .int ti]))
def tb_Sr (h : tb_heap) (a : Nat) : Prop := ∃ g, h (a + 5) = some (.inr (.inr (0, 5, g))) ∧ ∀ j, j < 5 → g j = some (tb_ba a j)
def tb_St (h : tb_heap) (a : Nat) (s : Nat → Nat) : Prop := tb_So h a (nI (s 4)) (nI (s 0)) ∧ tb_Ru h (a + 1) s ∧ tb_Sr h a ∧ tb_isA h (a + 6) 0 4 (fun k => nI (s (9 + k))) ∧ ∀ j, j < 5 → tb_B h (tb_ba a j) s j
section C6
variable {E : tb_env} {d : Nat} {h : tb_heap} {nx : Nat} {Q : Option Value → tb_heap → Nat → Prop} {a : Nat} {s : Nat → Nat}
theorem tb_So.g {em ti : Int32} (h0 : tb_So h a em ti) : tb_gf h a 4 0 = some (.ref (a + 1)) ∧ tb_gf h a 4 1 = some (.ref (a + 5)) ∧ tb_gf h a 4 2 = some (.ref (a + 6)) ∧ tb_gf h a 4 3 = some (.int em) ∧ tb_gf h a 4 4 = some (.int ti) := by
  unfold tb_gf
  rw [h0]
  exact ⟨rfl, rfl, rfl, rfl, rfl⟩
theorem tb_So.O {em ti : Int32} (h0 : tb_So h a em ti) : tb_isO h a 4 := ⟨_, h0⟩
theorem tb_Sr.ld (hS : tb_Sr h a) {j : Nat} (hj : j < 5) {K : Nat → Prop} : tb_wF (tb_ald h (a + 5) (nI j)) K = K (tb_ba a j) := by
  obtain ⟨g, h1, h2⟩ := hS
  have e : tb_ald h (a + 5) (nI j) = some (tb_ba a j) := by
    unfold tb_ald
    rw [h1]
    dsimp only
    rw [nI_clamp (by omega), if_neg (fun q => q.elim (fun q => by rw [e_lt0 (by omega)] at q; exact q) (fun q => by omega)), h2 j hj]
  rw [e]
  rfl
theorem tb_St.A (hS : tb_St h a s) {j : Nat} (hj : j < 5) {K : Nat → Prop} : tb_wF (tb_ald h (a + 5) (nI j)) K = K (tb_ba a j) := hS.2.2.1.ld hj
theorem tb_St.U (hS : tb_St h a s) {j : Nat} (hj : j < 4) {K : Int32 → Prop} : tb_wF (tb_ld E h 0 (a + 6) (nI j)) K = K (nI (s (9 + j))) := hS.2.2.2.1.ld hj (by decide)
theorem tb_St.B (hS : tb_St h a s) {j : Nat} (hj : j < 5) : tb_B h (tb_ba a j) s j := hS.2.2.2.2 j hj
theorem tb_St.gb (hS : tb_St h a s) (j : Nat) (hj : j < 5) : tb_gf h (tb_ba a j) 0 0 = some (.ref (tb_ba a j + 1)) ∧ tb_gf h (tb_ba a j) 0 1 = some (.ref (tb_ba a j + 2)) ∧ tb_gf h (tb_ba a j) 0 2 = some (.ref (tb_ba a j + 3)) ∧ tb_gf h (tb_ba a j) 0 3 = some (.int (nI (s (13 + j)))) ∧ tb_gf h (tb_ba a j) 0 4 = some (.int (nI (s (18 + j)))) ∧ tb_gf h (tb_ba a j) 0 5 = some (.int (nI (s (23 + j)))) := (hS.B hj).1.g
theorem tb_St.Ob (hS : tb_St h a s) (j : Nat) (hj : j < 5) : tb_isO h (tb_ba a j) 0 := (hS.B hj).1.O
theorem tb_St.fr {h' : tb_heap} (hS : tb_St h a s) (hF : ∀ q, a ≤ q → q < a + 27 → h' q = h q) : tb_St h' a s := by
  obtain ⟨a1, a2, ⟨g, a3, a4⟩, a5, a6⟩ := hS
  refine ⟨(hF a (by omega) (by omega)).trans a1, a2.fr (fun q h1 h2 => hF q (by omega) (by omega)), ⟨g, (hF _ (by omega) (by omega)).trans a3, a4⟩, a5.to (hF _ (by omega) (by omega)) (fun _ _ => rfl), fun j hj => (a6 j hj).fr (fun q h1 h2 => ?_)⟩
  unfold tb_ba at h1 h2
  exact hF q (by omega) (by omega)
theorem s_isWithin_no {v a b : Int32} (hv : v < a ∨ b < v) : tb_wp E d 67 0 [.int v, .int a, .int b] [] h nx 0 0 Q = Q (some (.int (nI 0))) h nx := by
  by_cases h1 : v < a
  · simp (disch := first | assumption | omega | exact tb_sm0 | exact tb_sm1 _ | exact tb_sm2 _ _ | exact tb_sm3 _ _ _ | exact tb_sm4 _ _ _ _ | exact Or.inl rfl | exact Or.inr rfl | fail) only [r67_0, r67_1, r67_2, r67_5, r67_6, r67_7, r67_10, r67_11, r67_14, r67_15, h1, if_true, ↓reduceIte]
  · have h2 : b < v := hv.resolve_left h1
    simp (disch := first | assumption | omega | exact tb_sm0 | exact tb_sm1 _ | exact tb_sm2 _ _ | exact tb_sm3 _ _ _ | exact tb_sm4 _ _ _ _ | exact Or.inl rfl | exact Or.inr rfl | fail) only [r67_0, r67_1, r67_2, r67_5, r67_6, r67_7, r67_10, r67_11, r67_14, r67_15, h1, h2, if_true, if_false, ↓reduceIte]
theorem s_isWithin_ok {v a b : Int32} (h1 : ¬ v < a) (h2 : ¬ b < v) : tb_wp E d 67 0 [.int v, .int a, .int b] [] h nx 0 0 Q = Q (some (.int (nI 1))) h nx := by
  simp (disch := first | assumption | omega | exact tb_sm0 | exact tb_sm1 _ | exact tb_sm2 _ _ | exact tb_sm3 _ _ _ | exact tb_sm4 _ _ _ _ | exact Or.inl rfl | exact Or.inr rfl | fail) only [r67_0, r67_1, r67_2, r67_5, r67_6, r67_7, r67_10, r67_11, r67_14, r67_15, h1, h2, if_false, ↓reduceIte]
theorem s_isWithin {v a b : Nat} (h1 : a ≤ v) (h2 : v ≤ b) (hb : b < 2 ^ 31) : tb_wp E d 67 0 [.int (nI v), .int (nI a), .int (nI b)] [] h nx 0 0 Q = Q (some (.int (nI 1))) h nx :=
  s_isWithin_ok (by rw [nI_ltI (by omega) (by omega)]; omega) (by rw [nI_ltI hb (by omega)]; omega)
theorem s_isBoard_no {x : Int32} (hx : tb_bad x 4) (hd : 1 ≤ d) : tb_wp E d 68 0 [.int x] [] h nx 0 0 Q = Q (some (.int (nI 0))) h nx := by
  simp (disch := first | assumption | omega | exact tb_sm0 | exact tb_sm1 _ | exact tb_sm2 _ _ | exact tb_sm3 _ _ _ | exact tb_sm4 _ _ _ _ | exact Or.inl rfl | exact Or.inr rfl | fail) only [r68_0, r68_1, r68_2, r68_3, r68_6, s_isWithin_no hx, tb_vl_some, tb_vl_none, tb_wF_some]
theorem s_isBoard {b : Nat} (hb : b < 5) (hd : 1 ≤ d) : tb_wp E d 68 0 [.int (nI b)] [] h nx 0 0 Q = Q (some (.int (nI 1))) h nx := by
  simp (disch := first | assumption | omega | exact tb_sm0 | exact tb_sm1 _ | exact tb_sm2 _ _ | exact tb_sm3 _ _ _ | exact tb_sm4 _ _ _ _ | exact Or.inl rfl | exact Or.inr rfl | fail) only [r68_0, r68_1, r68_2, r68_3, r68_6, s_isWithin (Nat.zero_le b) (show b ≤ 4 by omega) (by decide), tb_vl_some, tb_vl_none, tb_wF_some]
theorem s_isKind_no {x : Int32} (hx : tb_bad x 3) (hd : 1 ≤ d) : tb_wp E d 69 0 [.int x] [] h nx 0 0 Q = Q (some (.int (nI 0))) h nx := by
  simp (disch := first | assumption | omega | exact tb_sm0 | exact tb_sm1 _ | exact tb_sm2 _ _ | exact tb_sm3 _ _ _ | exact tb_sm4 _ _ _ _ | exact Or.inl rfl | exact Or.inr rfl | fail) only [r69_0, r69_1, r69_2, r69_3, r69_6, s_isWithin_no hx, tb_vl_some, tb_vl_none, tb_wF_some]
theorem s_isKind {b : Nat} (hb : b < 4) (hd : 1 ≤ d) : tb_wp E d 69 0 [.int (nI b)] [] h nx 0 0 Q = Q (some (.int (nI 1))) h nx := by
  simp (disch := first | assumption | omega | exact tb_sm0 | exact tb_sm1 _ | exact tb_sm2 _ _ | exact tb_sm3 _ _ _ | exact tb_sm4 _ _ _ _ | exact Or.inl rfl | exact Or.inr rfl | fail) only [r69_0, r69_1, r69_2, r69_3, r69_6, s_isWithin (Nat.zero_le b) (show b ≤ 3 by omega) (by decide), tb_vl_some, tb_vl_none, tb_wF_some]
theorem s_isPlace_no {x y z : Int32} (hx : tb_bad x 4 ∨ tb_bad y 7 ∨ tb_bad z 3) (hd : 2 ≤ d) : tb_wp E d 70 0 [.int x, .int y, .int z] [] h nx 0 0 Q = Q (some (.int (nI 0))) h nx := by
  rcases tb_gd x (show 4 < 2 ^ 31 by decide) with hb | ⟨b, hb, rfl⟩
  · simp (disch := first | assumption | omega | exact tb_sm0 | exact tb_sm1 _ | exact tb_sm2 _ _ | exact tb_sm3 _ _ _ | exact tb_sm4 _ _ _ _ | exact Or.inl rfl | exact Or.inr rfl | fail) only [r70_0, r70_1, r70_4, r70_7, r70_8, r70_9, r70_11, r70_14, r70_17, r70_18, r70_21, r70_24, r70_25, r70_28, r70_29, s_isBoard_no hb, tb_vl_some, tb_vl_none, tb_wF_some, nI_add, pk_mul, e_sub, e_div, tb_nmod, e_dec, e_le, e_lt, e_eq, e_eq0, e_lt0, e_0le, e_0lt, e_le0, if_true, if_false, not_true_eq_false, not_false_eq_true, ite_true, ite_false, Nat.reduceAdd, Nat.reduceMul, Nat.reduceLeDiff, Nat.reduceLT, Nat.reduceEqDiff, Nat.reduceSub, ↓reduceIte, Nat.reduceDiv, Nat.reduceMod]
  · rcases tb_gd y (show 7 < 2 ^ 31 by decide) with hc | ⟨c, hc, rfl⟩
    · simp (disch := first | assumption | omega | exact tb_sm0 | exact tb_sm1 _ | exact tb_sm2 _ _ | exact tb_sm3 _ _ _ | exact tb_sm4 _ _ _ _ | exact Or.inl rfl | exact Or.inr rfl | fail) only [r70_0, r70_1, r70_4, r70_7, r70_8, r70_9, r70_11, r70_14, r70_17, r70_18, r70_21, r70_24, r70_25, r70_28, r70_29, s_isBoard (show b < 5 by omega), s_isWithin_no hc, tb_vl_some, tb_vl_none, tb_wF_some, nI_add, pk_mul, e_sub, e_div, tb_nmod, e_dec, e_le, e_lt, e_eq, e_eq0, e_lt0, e_0le, e_0lt, e_le0, if_true, if_false, not_true_eq_false, not_false_eq_true, ite_true, ite_false, Nat.reduceAdd, Nat.reduceMul, Nat.reduceLeDiff, Nat.reduceLT, Nat.reduceEqDiff, Nat.reduceSub, ↓reduceIte, Nat.reduceDiv, Nat.reduceMod]
    · have hz : tb_bad z 3 := by
        rcases hx with q | q | q
        · exact absurd q (e_ok hb (by decide))
        · exact absurd q (e_ok hc (by decide))
        · exact q
      simp (disch := first | assumption | omega | exact tb_sm0 | exact tb_sm1 _ | exact tb_sm2 _ _ | exact tb_sm3 _ _ _ | exact tb_sm4 _ _ _ _ | exact Or.inl rfl | exact Or.inr rfl | fail) only [r70_0, r70_1, r70_4, r70_7, r70_8, r70_9, r70_11, r70_14, r70_17, r70_18, r70_21, r70_24, r70_25, r70_28, r70_29, s_isBoard (show b < 5 by omega), s_isWithin (Nat.zero_le c) hc (by decide), s_isKind_no hz, tb_vl_some, tb_vl_none, tb_wF_some, nI_add, pk_mul, e_sub, e_div, tb_nmod, e_dec, e_le, e_lt, e_eq, e_eq0, e_lt0, e_0le, e_0lt, e_le0, if_true, if_false, not_true_eq_false, not_false_eq_true, ite_true, ite_false, Nat.reduceAdd, Nat.reduceMul, Nat.reduceLeDiff, Nat.reduceLT, Nat.reduceEqDiff, Nat.reduceSub, ↓reduceIte, Nat.reduceDiv, Nat.reduceMod]
theorem s_isPlace {b c k : Nat} (hb : b < 5) (hc : c < 8) (hk : k < 4) (hd : 2 ≤ d) : tb_wp E d 70 0 [.int (nI b), .int (nI c), .int (nI k)] [] h nx 0 0 Q = Q (some (.int (nI 1))) h nx := by
  simp (disch := first | assumption | omega | exact tb_sm0 | exact tb_sm1 _ | exact tb_sm2 _ _ | exact tb_sm3 _ _ _ | exact tb_sm4 _ _ _ _ | exact Or.inl rfl | exact Or.inr rfl | fail) only [r70_0, r70_1, r70_4, r70_7, r70_8, r70_9, r70_11, r70_14, r70_17, r70_18, r70_21, r70_24, r70_25, r70_28, r70_29, s_isBoard hb, s_isWithin (Nat.zero_le c) (show c ≤ 7 by omega) (by decide), s_isKind hk, tb_vl_some, tb_vl_none, tb_wF_some, nI_add, pk_mul, e_sub, e_div, tb_nmod, e_dec, e_le, e_lt, e_eq, e_eq0, e_lt0, e_0le, e_0lt, e_le0, if_true, if_false, not_true_eq_false, not_false_eq_true, ite_true, ite_false, Nat.reduceAdd, Nat.reduceMul, Nat.reduceLeDiff, Nat.reduceLT, Nat.reduceEqDiff, Nat.reduceSub, ↓reduceIte, Nat.reduceDiv, Nat.reduceMod]
theorem s_fallen (hS : tb_St h a s) : tb_wp E d 39 0 [.ref a, .long 0, .long 0] [] h nx 0 0 Q = Q (some (.int (nI (sp_fell s)))) h nx := by
  have g := hS.1.g
  have gb := hS.gb
  simp (disch := first | assumption | omega | exact tb_sm0 | exact tb_sm1 _ | exact tb_sm2 _ _ | exact tb_sm3 _ _ _ | exact tb_sm4 _ _ _ _ | exact Or.inl rfl | exact Or.inr rfl | fail) only [r39_0, r39_1, r39_2, r39_3, r39_4, r39_5, r39_6, r39_9, r39_10, r39_11, r39_14, r39_15, r39_16, r39_19, r39_20, r39_21, r39_24, r39_27, r39_28, g, gb, hS.A, tb_vl_some, tb_vl_none, tb_wF_some, nI_add, pk_mul, e_sub, e_div, tb_nmod, e_dec, e_le, e_lt, e_eq, e_eq0, e_lt0, e_0le, e_0lt, e_le0, if_true, if_false, not_true_eq_false, not_false_eq_true, ite_true, ite_false, Nat.reduceAdd, Nat.reduceMul, Nat.reduceLeDiff, Nat.reduceLT, Nat.reduceEqDiff, Nat.reduceSub, ↓reduceIte, Nat.reduceDiv, Nat.reduceMod, Nat.zero_add]
  simp only [sp_fell, sp_acc, Nat.zero_add, Nat.reduceAdd]
theorem s_dust (hS : tb_St h a s) : tb_wp E d 40 0 [.ref a, .long 0, .long 0] [] h nx 0 0 Q = Q (some (.int (nI (sp_acc (fun j => s (23 + j)) 5)))) h nx := by
  have g := hS.1.g
  have gb := hS.gb
  simp (disch := first | assumption | omega | exact tb_sm0 | exact tb_sm1 _ | exact tb_sm2 _ _ | exact tb_sm3 _ _ _ | exact tb_sm4 _ _ _ _ | exact Or.inl rfl | exact Or.inr rfl | fail) only [r40_0, r40_1, r40_2, r40_3, r40_4, r40_5, r40_6, r40_9, r40_10, r40_11, r40_14, r40_15, r40_16, r40_19, r40_20, r40_21, r40_24, r40_27, r40_28, g, gb, hS.A, tb_vl_some, tb_vl_none, tb_wF_some, nI_add, pk_mul, e_sub, e_div, tb_nmod, e_dec, e_le, e_lt, e_eq, e_eq0, e_lt0, e_0le, e_0lt, e_le0, if_true, if_false, not_true_eq_false, not_false_eq_true, ite_true, ite_false, Nat.reduceAdd, Nat.reduceMul, Nat.reduceLeDiff, Nat.reduceLT, Nat.reduceEqDiff, Nat.reduceSub, ↓reduceIte, Nat.reduceDiv, Nat.reduceMod, Nat.zero_add]
  simp only [sp_acc, Nat.zero_add, Nat.reduceAdd]
theorem s_poured (hS : tb_St h a s) : tb_wp E d 41 0 [.ref a, .long 0, .long 0] [] h nx 0 0 Q = Q (some (.int (nI (sp_acc (fun j => s (9 + j)) 4)))) h nx := by
  have g := hS.1.g
  simp (disch := first | assumption | omega | exact tb_sm0 | exact tb_sm1 _ | exact tb_sm2 _ _ | exact tb_sm3 _ _ _ | exact tb_sm4 _ _ _ _ | exact Or.inl rfl | exact Or.inr rfl | fail) only [r41_0, r41_1, r41_2, r41_3, r41_4, r41_5, r41_6, r41_9, r41_10, r41_11, r41_14, r41_15, r41_16, r41_17, r41_18, r41_21, r41_24, r41_25, g, hS.U, tb_vl_some, tb_vl_none, tb_wF_some, nI_add, pk_mul, e_sub, e_div, tb_nmod, e_dec, e_le, e_lt, e_eq, e_eq0, e_lt0, e_0le, e_0lt, e_le0, if_true, if_false, not_true_eq_false, not_false_eq_true, ite_true, ite_false, Nat.reduceAdd, Nat.reduceMul, Nat.reduceLeDiff, Nat.reduceLT, Nat.reduceEqDiff, Nat.reduceSub, ↓reduceIte, Nat.reduceDiv, Nat.reduceMod, Nat.zero_add]
  simp only [sp_acc, Nat.zero_add, Nat.reduceAdd]
theorem s_pans (hS : tb_St h a s) (hd : 1 ≤ d) : tb_wp E d 38 0 [.ref a, .long 0, .long 0] [] h nx 0 0 Q = Q (some (.int (nI (sp_acc (fun j => s (28 + j)) 20)))) h nx := by
  have g := hS.1.g
  have o0 := hS.Ob 0 (by decide)
  have o1 := hS.Ob 1 (by decide)
  have o2 := hS.Ob 2 (by decide)
  have o3 := hS.Ob 3 (by decide)
  have o4 := hS.Ob 4 (by decide)
  simp (disch := first | assumption | omega | exact tb_sm0 | exact tb_sm1 _ | exact tb_sm2 _ _ | exact tb_sm3 _ _ _ | exact tb_sm4 _ _ _ _ | exact Or.inl rfl | exact Or.inr rfl | fail) only [r38_0, r38_1, r38_2, r38_3, r38_4, r38_5, r38_6, r38_9, r38_10, r38_11, r38_14, r38_15, r38_16, r38_19, r38_20, r38_21, r38_24, r38_27, r38_28, g, hS.A, c_grainsInPan (hS.B (show 0 < 5 by decide)), c_grainsInPan (hS.B (show 1 < 5 by decide)), c_grainsInPan (hS.B (show 2 < 5 by decide)), c_grainsInPan (hS.B (show 3 < 5 by decide)), c_grainsInPan (hS.B (show 4 < 5 by decide)), tb_vl_some, tb_vl_none, tb_wF_some, nI_add, pk_mul, e_sub, e_div, tb_nmod, e_dec, e_le, e_lt, e_eq, e_eq0, e_lt0, e_0le, e_0lt, e_le0, if_true, if_false, not_true_eq_false, not_false_eq_true, ite_true, ite_false, Nat.reduceAdd, Nat.reduceMul, Nat.reduceLeDiff, Nat.reduceLT, Nat.reduceEqDiff, Nat.reduceSub, ↓reduceIte, Nat.reduceDiv, Nat.reduceMod, Nat.zero_add]
  simp only [sp_acc, sp_pan, Nat.zero_add, Nat.reduceAdd, Nat.reduceMul, Nat.add_assoc]
theorem s_onAll (hS : tb_St h a s) (hd : 1 ≤ d) : tb_wp E d 37 0 [.ref a, .long 0, .long 0] [] h nx 0 0 Q = Q (some (.int (nI (sp_acc (fun j => s (48 + j)) 160)))) h nx := by
  have g := hS.1.g
  have o0 := hS.Ob 0 (by decide)
  have o1 := hS.Ob 1 (by decide)
  have o2 := hS.Ob 2 (by decide)
  have o3 := hS.Ob 3 (by decide)
  have o4 := hS.Ob 4 (by decide)
  simp (disch := first | assumption | omega | exact tb_sm0 | exact tb_sm1 _ | exact tb_sm2 _ _ | exact tb_sm3 _ _ _ | exact tb_sm4 _ _ _ _ | exact Or.inl rfl | exact Or.inr rfl | fail) only [r37_0, r37_1, r37_2, r37_3, r37_4, r37_5, r37_6, r37_9, r37_10, r37_11, r37_14, r37_15, r37_16, r37_19, r37_20, r37_21, r37_24, r37_27, r37_28, g, hS.A, c_grainsOnCells (hS.B (show 0 < 5 by decide)), c_grainsOnCells (hS.B (show 1 < 5 by decide)), c_grainsOnCells (hS.B (show 2 < 5 by decide)), c_grainsOnCells (hS.B (show 3 < 5 by decide)), c_grainsOnCells (hS.B (show 4 < 5 by decide)), tb_vl_some, tb_vl_none, tb_wF_some, nI_add, pk_mul, e_sub, e_div, tb_nmod, e_dec, e_le, e_lt, e_eq, e_eq0, e_lt0, e_0le, e_0lt, e_le0, if_true, if_false, not_true_eq_false, not_false_eq_true, ite_true, ite_false, Nat.reduceAdd, Nat.reduceMul, Nat.reduceLeDiff, Nat.reduceLT, Nat.reduceEqDiff, Nat.reduceSub, ↓reduceIte, Nat.reduceDiv, Nat.reduceMod, Nat.zero_add]
  simp only [sp_acc, sp_all, sp_on, Nat.zero_add, Nat.reduceAdd, Nat.reduceMul, Nat.add_assoc]
theorem s_panK {k : Nat} (hS : tb_St h a s) (hk : k < 4) : tb_wp E d 36 0 [.ref a, .int (nI k), .long 0, .long 0] [] h nx 0 0 Q = Q (some (.int (nI (sp_acc (fun j => s (28 + k + 4 * j)) 5)))) h nx := by
  have g := hS.1.g
  have gb := hS.gb
  have P : ∀ {j : Nat} (hj : j < 5) {K : Int32 → Prop}, tb_wF (tb_ld E h 0 (tb_ba a j + 3) (nI k)) K = K (nI (s (28 + 4 * j + k))) := fun hj => (hS.B hj).P hk
  simp (disch := first | assumption | omega | exact tb_sm0 | exact tb_sm1 _ | exact tb_sm2 _ _ | exact tb_sm3 _ _ _ | exact tb_sm4 _ _ _ _ | exact Or.inl rfl | exact Or.inr rfl | fail) only [r36_0, r36_1, r36_2, r36_3, r36_4, r36_5, r36_6, r36_9, r36_10, r36_11, r36_14, r36_15, r36_16, r36_19, r36_20, r36_21, r36_22, r36_23, r36_26, r36_29, r36_30, g, gb, hS.A, P, tb_vl_some, tb_vl_none, tb_wF_some, nI_add, pk_mul, e_sub, e_div, tb_nmod, e_dec, e_le, e_lt, e_eq, e_eq0, e_lt0, e_0le, e_0lt, e_le0, if_true, if_false, not_true_eq_false, not_false_eq_true, ite_true, ite_false, Nat.reduceAdd, Nat.reduceMul, Nat.reduceLeDiff, Nat.reduceLT, Nat.reduceEqDiff, Nat.reduceSub, ↓reduceIte, Nat.reduceDiv, Nat.reduceMod, Nat.zero_add]
  simp only [sp_acc, Nat.zero_add, Nat.reduceAdd, Nat.reduceMul, Nat.add_zero]
  have e : ∀ x, 28 + x + k = 28 + k + x := fun x => by omega
  have e0 : ∀ (y : Nat), 28 + k = 28 + k := fun _ => rfl
  rw [show 32 + k = 28 + k + 4 by omega, show 36 + k = 28 + k + 8 by omega, show 40 + k = 28 + k + 12 by omega, show 44 + k = 28 + k + 16 by omega]
theorem s_rest (hS : tb_St h a s) (hI : sp_I s) (hd : 4 ≤ d) : tb_wp E d 42 0 [.ref a, .long 0, .long 0] [] h nx 0 0 Q = Q (some (.int (nI (sp_r1 s 0 + sp_r1 s 1 + sp_r1 s 2 + sp_r1 s 3 + sp_r1 s 4)))) h nx := by
  have g := hS.1.g
  have step : ∀ (j c : Nat), j < 5 → (tb_wp E d 42 4 [.ref a, .int (nI (c + sp_r1 s j)), .int (nI (j + 1))] [] h nx 0 0 Q = Q (some (.int (nI (sp_r1 s 0 + sp_r1 s 1 + sp_r1 s 2 + sp_r1 s 3 + sp_r1 s 4)))) h nx) → tb_wp E d 42 4 [.ref a, .int (nI c), .int (nI j)] [] h nx 0 0 Q = Q (some (.int (nI (sp_r1 s 0 + sp_r1 s 1 + sp_r1 s 2 + sp_r1 s 3 + sp_r1 s 4)))) h nx := by
    intro j c hj hq
    have hj5 : ¬ 5 ≤ j := by omega
    have o := hS.Ob j hj
    have r := fun {Q'} => c_isAtRest (E := E) (d := d - 1) (nx := nx) (Q := Q') (hS.B hj) hS.2.1 hI hj (fun _ _ => rfl) (show 3 ≤ d - 1 by omega)
    simp (disch := first | assumption | omega | exact tb_sm0 | exact tb_sm1 _ | exact tb_sm2 _ _ | exact tb_sm3 _ _ _ | exact tb_sm4 _ _ _ _ | exact Or.inl rfl | exact Or.inr rfl | fail) only [r42_4, r42_5, r42_6, hj5, nI_add, pk_mul, e_sub, e_div, tb_nmod, e_dec, e_le, e_lt, e_eq, e_eq0, e_lt0, e_0le, e_0lt, e_le0, if_true, if_false, not_true_eq_false, not_false_eq_true, ite_true, ite_false, Nat.reduceAdd, Nat.reduceMul, Nat.reduceLeDiff, Nat.reduceLT, Nat.reduceEqDiff, Nat.reduceSub, ↓reduceIte, Nat.reduceDiv, Nat.reduceMod]
    rcases (by have := sp_r1_le s j; omega : sp_r1 s j = 0 ∨ sp_r1 s j = 1) with q | q
    · rw [q] at hq r
      simp (disch := first | assumption | omega | exact tb_sm0 | exact tb_sm1 _ | exact tb_sm2 _ _ | exact tb_sm3 _ _ _ | exact tb_sm4 _ _ _ _ | exact Or.inl rfl | exact Or.inr rfl | fail) only [r42_0, r42_1, r42_2, r42_3, r42_5, r42_6, r42_9, r42_10, r42_13, r42_14, r42_15, r42_16, r42_19, r42_22, r42_25, r42_28, r42_31, r42_34, r42_35, g, hS.A, r, tb_vl_some, tb_vl_none, tb_wF_some, nI_add, pk_mul, e_sub, e_div, tb_nmod, e_dec, e_le, e_lt, e_eq, e_eq0, e_lt0, e_0le, e_0lt, e_le0, if_true, if_false, not_true_eq_false, not_false_eq_true, ite_true, ite_false, Nat.reduceAdd, Nat.reduceMul, Nat.reduceLeDiff, Nat.reduceLT, Nat.reduceEqDiff, Nat.reduceSub, ↓reduceIte, Nat.reduceDiv, Nat.reduceMod]
      exact hq
    · rw [q] at hq r
      simp (disch := first | assumption | omega | exact tb_sm0 | exact tb_sm1 _ | exact tb_sm2 _ _ | exact tb_sm3 _ _ _ | exact tb_sm4 _ _ _ _ | exact Or.inl rfl | exact Or.inr rfl | fail) only [r42_0, r42_1, r42_2, r42_3, r42_5, r42_6, r42_9, r42_10, r42_13, r42_14, r42_15, r42_16, r42_19, r42_22, r42_25, r42_28, r42_31, r42_34, r42_35, g, hS.A, r, tb_vl_some, tb_vl_none, tb_wF_some, nI_add, pk_mul, e_sub, e_div, tb_nmod, e_dec, e_le, e_lt, e_eq, e_eq0, e_lt0, e_0le, e_0lt, e_le0, if_true, if_false, not_true_eq_false, not_false_eq_true, ite_true, ite_false, Nat.reduceAdd, Nat.reduceMul, Nat.reduceLeDiff, Nat.reduceLT, Nat.reduceEqDiff, Nat.reduceSub, ↓reduceIte, Nat.reduceDiv, Nat.reduceMod]
      exact hq
  simp (disch := first | assumption | omega | exact tb_sm0 | exact tb_sm1 _ | exact tb_sm2 _ _ | exact tb_sm3 _ _ _ | exact tb_sm4 _ _ _ _ | exact Or.inl rfl | exact Or.inr rfl | fail) only [r42_0, r42_1, r42_2, r42_3, r42_5, r42_6, r42_9, r42_10, r42_13, r42_14, r42_15, r42_16, r42_19, r42_22, r42_25, r42_28, r42_31, r42_34, r42_35]
  refine step 0 _ (by decide) ?_
  refine step 1 _ (by decide) ?_
  refine step 2 _ (by decide) ?_
  refine step 3 _ (by decide) ?_
  refine step 4 _ (by decide) ?_
  simp (disch := first | assumption | omega | exact tb_sm0 | exact tb_sm1 _ | exact tb_sm2 _ _ | exact tb_sm3 _ _ _ | exact tb_sm4 _ _ _ _ | exact Or.inl rfl | exact Or.inr rfl | fail) only [r42_0, r42_1, r42_2, r42_3, r42_4, r42_5, r42_6, r42_9, r42_10, r42_13, r42_14, r42_15, r42_16, r42_19, r42_22, r42_25, r42_28, r42_31, r42_34, r42_35, nI_add, pk_mul, e_sub, e_div, tb_nmod, e_dec, e_le, e_lt, e_eq, e_eq0, e_lt0, e_0le, e_0lt, e_le0, if_true, if_false, not_true_eq_false, not_false_eq_true, ite_true, ite_false, Nat.reduceAdd, Nat.reduceMul, Nat.reduceLeDiff, Nat.reduceLT, Nat.reduceEqDiff, Nat.reduceSub, ↓reduceIte, Nat.reduceDiv, Nat.reduceMod, Nat.zero_add]
theorem s_onK {k : Nat} (hS : tb_St h a s) (hk : k < 4) (hd : 1 ≤ d) : tb_wp E d 35 0 [.ref a, .int (nI k), .long 0, .long 0, .long 0] [] h nx 0 0 Q = Q (some (.int (nI (sp_acc (fun j => s (48 + k + 4 * j)) 40)))) h nx := by
  have g := hS.1.g
  have gb := hS.gb
  have step : ∀ (j c : Nat), j < 5 → c < 8 → tb_wp E d 35 12 [.ref a, .int (nI k), .int (nI (sp_acc (fun j => s (48 + k + 4 * j)) (8 * j + c))), .int (nI j), .int (nI c)] [] h nx 0 0 Q = tb_wp E d 35 12 [.ref a, .int (nI k), .int (nI (sp_acc (fun j => s (48 + k + 4 * j)) (8 * j + (c + 1)))), .int (nI j), .int (nI (c + 1))] [] h nx 0 0 Q := by
    intro j c hj hc
    have hc8 : ¬ 8 ≤ c := by omega
    have H : ∀ {K : Int32 → Prop}, tb_wF (tb_ld E h 0 (tb_ba a j + 1) (nI (c * 4 + k))) K = K (nI (s (48 + 32 * j + (c * 4 + k)))) := fun {K} => (hS.B hj).H (by omega)
    have e : 48 + 32 * j + (c * 4 + k) = 48 + k + 4 * (8 * j + c) := by omega
    rw [e] at H
    conv => lhs; rw [r35_12, r35_14, r35_16]
    rw [if_neg (by rw [e_le (by decide) (by omega)]; exact hc8)]
    simp (disch := first | assumption | omega | exact tb_sm0 | exact tb_sm1 _ | exact tb_sm2 _ _ | exact tb_sm3 _ _ _ | exact tb_sm4 _ _ _ _ | exact Or.inl rfl | exact Or.inr rfl | fail) only [r35_0, r35_1, r35_2, r35_3, r35_4, r35_5, r35_6, r35_9, r35_10, r35_14, r35_16, r35_19, r35_20, r35_21, r35_24, r35_25, r35_26, r35_29, r35_31, r35_32, r35_35, r35_36, r35_37, r35_38, r35_41, r35_44, r35_47, r35_50, r35_51, g, gb j hj, hS.A, H, c_indexOf, tb_vl_some, tb_vl_none, tb_wF_some, nI_add]
    rw [show 8 * j + (c + 1) = (8 * j + c) + 1 by omega, sp_acc]
  have outer : ∀ (j : Nat) (y : Value), j < 5 → (∀ y', tb_wp E d 35 4 [.ref a, .int (nI k), .int (nI (sp_acc (fun j => s (48 + k + 4 * j)) (8 * (j + 1)))), .int (nI (j + 1)), y'] [] h nx 0 0 Q = Q (some (.int (nI (sp_acc (fun j => s (48 + k + 4 * j)) 40)))) h nx) → tb_wp E d 35 4 [.ref a, .int (nI k), .int (nI (sp_acc (fun j => s (48 + k + 4 * j)) (8 * j))), .int (nI j), y] [] h nx 0 0 Q = Q (some (.int (nI (sp_acc (fun j => s (48 + k + 4 * j)) 40)))) h nx := by
    intro j y hj hq
    have hj5 : ¬ 5 ≤ j := by omega
    simp (disch := first | assumption | omega | exact tb_sm0 | exact tb_sm1 _ | exact tb_sm2 _ _ | exact tb_sm3 _ _ _ | exact tb_sm4 _ _ _ _ | exact Or.inl rfl | exact Or.inr rfl | fail) only [r35_4, r35_5, r35_6, hj5, nI_add, pk_mul, e_sub, e_div, tb_nmod, e_dec, e_le, e_lt, e_eq, e_eq0, e_lt0, e_0le, e_0lt, e_le0, if_true, if_false, not_true_eq_false, not_false_eq_true, ite_true, ite_false, Nat.reduceAdd, Nat.reduceMul, Nat.reduceLeDiff, Nat.reduceLT, Nat.reduceEqDiff, Nat.reduceSub, ↓reduceIte, Nat.reduceDiv, Nat.reduceMod]
    simp (disch := first | assumption | omega | exact tb_sm0 | exact tb_sm1 _ | exact tb_sm2 _ _ | exact tb_sm3 _ _ _ | exact tb_sm4 _ _ _ _ | exact Or.inl rfl | exact Or.inr rfl | fail) only [r35_9, r35_10]
    have w := step j 0 hj (by decide)
    rw [Nat.add_zero] at w
    rw [w, step j (0 + 1) hj (by decide), step j (0 + 1 + 1) hj (by decide), step j (0 + 1 + 1 + 1) hj (by decide), step j (0 + 1 + 1 + 1 + 1) hj (by decide), step j (0 + 1 + 1 + 1 + 1 + 1) hj (by decide), step j (0 + 1 + 1 + 1 + 1 + 1 + 1) hj (by decide), step j (0 + 1 + 1 + 1 + 1 + 1 + 1 + 1) hj (by decide)]
    have hq' := hq (.int (nI 8))
    rw [show 8 * (j + 1) = 8 * j + 8 by omega] at hq'
    simp (disch := first | assumption | omega | exact tb_sm0 | exact tb_sm1 _ | exact tb_sm2 _ _ | exact tb_sm3 _ _ _ | exact tb_sm4 _ _ _ _ | exact Or.inl rfl | exact Or.inr rfl | fail) only [r35_0, r35_1, r35_2, r35_3, r35_5, r35_6, r35_9, r35_10, r35_12, r35_14, r35_16, r35_19, r35_20, r35_21, r35_24, r35_25, r35_26, r35_29, r35_31, r35_32, r35_35, r35_36, r35_37, r35_38, r35_41, r35_44, r35_47, r35_50, r35_51, nI_add, pk_mul, e_sub, e_div, tb_nmod, e_dec, e_le, e_lt, e_eq, e_eq0, e_lt0, e_0le, e_0lt, e_le0, if_true, if_false, not_true_eq_false, not_false_eq_true, ite_true, ite_false, Nat.reduceAdd, Nat.reduceMul, Nat.reduceLeDiff, Nat.reduceLT, Nat.reduceEqDiff, Nat.reduceSub, ↓reduceIte, Nat.reduceDiv, Nat.reduceMod]
    exact hq'
  simp (disch := first | assumption | omega | exact tb_sm0 | exact tb_sm1 _ | exact tb_sm2 _ _ | exact tb_sm3 _ _ _ | exact tb_sm4 _ _ _ _ | exact Or.inl rfl | exact Or.inr rfl | fail) only [r35_0, r35_1, r35_2, r35_3]
  refine outer 0 _ (by decide) (fun y => ?_)
  refine outer 1 _ (by decide) (fun y => ?_)
  refine outer 2 _ (by decide) (fun y => ?_)
  refine outer 3 _ (by decide) (fun y => ?_)
  refine outer 4 _ (by decide) (fun y => ?_)
  simp (disch := first | assumption | omega | exact tb_sm0 | exact tb_sm1 _ | exact tb_sm2 _ _ | exact tb_sm3 _ _ _ | exact tb_sm4 _ _ _ _ | exact Or.inl rfl | exact Or.inr rfl | fail) only [r35_0, r35_1, r35_2, r35_3, r35_4, r35_5, r35_6, r35_9, r35_10, r35_12, r35_14, r35_16, r35_19, r35_20, r35_21, r35_24, r35_25, r35_26, r35_29, r35_31, r35_32, r35_35, r35_36, r35_37, r35_38, r35_41, r35_44, r35_47, r35_50, r35_51, nI_add, pk_mul, e_sub, e_div, tb_nmod, e_dec, e_le, e_lt, e_eq, e_eq0, e_lt0, e_0le, e_0lt, e_le0, if_true, if_false, not_true_eq_false, not_false_eq_true, ite_true, ite_false, Nat.reduceAdd, Nat.reduceMul, Nat.reduceLeDiff, Nat.reduceLT, Nat.reduceEqDiff, Nat.reduceSub, ↓reduceIte, Nat.reduceDiv, Nat.reduceMod]
end C6
