/-! THE CLASS: a board and the rules -/
theorem e_neg0 {a b : Nat} (h : a < b) (hb : b < 2 ^ 30) : (nI 0 < nI a - nI b) = False := by
  have h1 : nI a - nI b < 0 := by rw [e_neg h hb]; trivial
  rw [nI_0]
  exact eq_false (fun q => Int32.lt_asymm h1 q)
def tb_Bo (h : tb_heap) (b : Nat) (an fa du : Int32) : Prop := h b = some (.inl (0, [.ref (b + 1), .ref (b + 2), .ref (b + 3), .int an, .int fa, .int du]))
def tb_Bq (h : tb_heap) (b : Nat) (s mv : Nat → Nat) (i : Nat) : Prop := tb_Bo h b (nI (s (13 + i))) (nI (s (18 + i))) (nI (s (23 + i))) ∧ tb_isA h (b + 1) 0 32 (fun j => nI (s (48 + 32 * i + j))) ∧ tb_isA h (b + 2) 1 32 (fun j => nI (mv j)) ∧ tb_isA h (b + 3) 0 4 (fun k => nI (s (28 + 4 * i + k)))
def tb_mv (s : Nat → Nat) (i : Nat) : Nat → Nat := fun j => s (208 + 32 * i + j)
def tb_Ru (h : tb_heap) (a : Nat) (s : Nat → Nat) : Prop := h a = some (.inl (3, [.ref (a + 1), .ref (a + 2), .ref (a + 3)])) ∧ tb_isA h (a + 1) 0 4 (fun k => nI (s (5 + k))) ∧ tb_isA h (a + 2) 0 3 (fun k => nI (s (1 + k))) ∧ tb_isA h (a + 3) 0 4 (fun t => nI (sp_kd s t))
theorem tb_Bo.g {h : tb_heap} {b : Nat} {an fa du : Int32} (h0 : tb_Bo h b an fa du) : tb_gf h b 0 0 = some (.ref (b + 1)) ∧ tb_gf h b 0 1 = some (.ref (b + 2)) ∧ tb_gf h b 0 2 = some (.ref (b + 3)) ∧ tb_gf h b 0 3 = some (.int an) ∧ tb_gf h b 0 4 = some (.int fa) ∧ tb_gf h b 0 5 = some (.int du) := by
  unfold tb_gf
  rw [h0]
  exact ⟨rfl, rfl, rfl, rfl, rfl, rfl⟩
theorem tb_Bo.O {h : tb_heap} {b : Nat} {an fa du : Int32} (h0 : tb_Bo h b an fa du) : tb_isO h b 0 := ⟨_, h0⟩
theorem tb_Ru.g {h : tb_heap} {a : Nat} {s : Nat → Nat} (h0 : tb_Ru h a s) : tb_gf h a 3 0 = some (.ref (a + 1)) ∧ tb_gf h a 3 1 = some (.ref (a + 2)) ∧ tb_gf h a 3 2 = some (.ref (a + 3)) := by
  unfold tb_gf
  rw [h0.1]
  exact ⟨rfl, rfl, rfl⟩
theorem tb_Ru.O {h : tb_heap} {a : Nat} {s : Nat → Nat} (h0 : tb_Ru h a s) : tb_isO h a 3 := ⟨_, h0.1⟩
theorem sp_why_le (s : Nat → Nat) (i c k : Nat) : sp_why s i c k ≤ 3 := by
  unfold sp_why
  split
  · decide
  · split
    · decide
    · split <;> decide
section C1
variable {E : tb_env} {d : Nat} {h : tb_heap} {nx : Nat} {Q : Option Value → tb_heap → Nat → Prop} {b a i : Nat} {s mv : Nat → Nat}
theorem tb_Bq.H (hB : tb_Bq h b s mv i) {j : Nat} (hj : j < 32) {K : Int32 → Prop} : tb_wF (tb_ld E h 0 (b + 1) (nI j)) K = K (nI (s (48 + 32 * i + j))) := hB.2.1.ld hj (by decide)
theorem tb_Bq.M (hB : tb_Bq h b s mv i) {j : Nat} (hj : j < 32) {K : Int32 → Prop} : tb_wF (tb_ld E h 1 (b + 2) (nI j)) K = K (nI (mv j)) := hB.2.2.1.ld hj (by decide)
theorem tb_Bq.P (hB : tb_Bq h b s mv i) {j : Nat} (hj : j < 4) {K : Int32 → Prop} : tb_wF (tb_ld E h 0 (b + 3) (nI j)) K = K (nI (s (28 + 4 * i + j))) := hB.2.2.2.ld hj (by decide)
theorem tb_Ru.G (hR : tb_Ru h a s) {j : Nat} (hj : j < 4) {K : Int32 → Prop} : tb_wF (tb_ld E h 0 (a + 1) (nI j)) K = K (nI (s (5 + j))) := hR.2.1.ld hj (by decide)
theorem tb_Ru.T (hR : tb_Ru h a s) {j : Nat} (hj : j < 3) {K : Int32 → Prop} : tb_wF (tb_ld E h 0 (a + 2) (nI j)) K = K (nI (s (1 + j))) := hR.2.2.1.ld hj (by decide)
theorem tb_Ru.D (hR : tb_Ru h a s) {j : Nat} (hj : j < 4) {K : Int32 → Prop} : tb_wF (tb_ld E h 0 (a + 3) (nI j)) K = K (nI (sp_kd s j)) := hR.2.2.2.ld hj (by decide)
theorem c_indexOf {c k : Nat} : tb_wp E d 71 0 [.int (nI c), .int (nI k)] [] h nx 0 0 Q = Q (some (.int (nI (c * 4 + k)))) h nx := by
  simp (disch := first | assumption | omega | exact tb_sm0 | exact tb_sm1 _ | exact tb_sm2 _ _ | exact tb_sm3 _ _ _ | exact tb_sm4 _ _ _ _ | exact Or.inl rfl | exact Or.inr rfl | fail) only [r71_0, r71_1, r71_2, r71_3, r71_4, r71_5, nI_add, pk_mul, e_sub, e_div, tb_nmod, e_dec, e_le, e_lt, e_eq, e_eq0, e_lt0, e_0le, e_0lt, e_le0, if_true, if_false, not_true_eq_false, not_false_eq_true, ite_true, ite_false, Nat.reduceAdd, Nat.reduceMul, Nat.reduceLeDiff, Nat.reduceLT, Nat.reduceEqDiff, Nat.reduceSub, ↓reduceIte, Nat.reduceDiv, Nat.reduceMod]
theorem c_grainsOn {c : Nat} (hB : tb_Bq h b s mv i) (hc : c < 8) : tb_wp E d 2 0 [.ref b, .int (nI c), .long 0, .long 0, .long 0] [] h nx 0 0 Q = Q (some (.int (nI (sp_on s i c)))) h nx := by
  have g := hB.1.g
  have e : ∀ k, 48 + 32 * i + (c * 4 + k) = 48 + 32 * i + 4 * c + k := fun k => by omega
  simp (disch := first | assumption | omega | exact tb_sm0 | exact tb_sm1 _ | exact tb_sm2 _ _ | exact tb_sm3 _ _ _ | exact tb_sm4 _ _ _ _ | exact Or.inl rfl | exact Or.inr rfl | fail) only [r2_0, r2_1, r2_2, r2_3, r2_4, r2_5, r2_6, r2_7, r2_9, r2_11, r2_12, r2_15, r2_16, r2_17, r2_20, r2_21, r2_23, r2_24, r2_25, r2_26, r2_27, r2_30, r2_33, r2_34, g, hB.H, tb_vl_some, tb_vl_none, tb_wF_some, nI_add, pk_mul, e_sub, e_div, tb_nmod, e_dec, e_le, e_lt, e_eq, e_eq0, e_lt0, e_0le, e_0lt, e_le0, if_true, if_false, not_true_eq_false, not_false_eq_true, ite_true, ite_false, Nat.reduceAdd, Nat.reduceMul, Nat.reduceLeDiff, Nat.reduceLT, Nat.reduceEqDiff, Nat.reduceSub, ↓reduceIte, Nat.reduceDiv, Nat.reduceMod, e, Nat.zero_add]
  rfl
theorem c_roomBelow {c : Nat} (hB : tb_Bq h b s mv i) (hI : sp_I s) (hi : i < 5) (hc : c < 8) (hd : 1 ≤ d) : tb_wp E d 3 0 [.ref b, .int (nI c)] [] h nx 0 0 Q = Q (some (.int (nI (sp_room s i c)))) h nx := by
  have hO := hB.1.O
  unfold sp_room
  by_cases c7 : c = 7
  · subst c7
    simp (disch := first | assumption | omega | exact tb_sm0 | exact tb_sm1 _ | exact tb_sm2 _ _ | exact tb_sm3 _ _ _ | exact tb_sm4 _ _ _ _ | exact Or.inl rfl | exact Or.inr rfl | fail) only [r3_0, r3_1, r3_3, r3_6, r3_8, r3_11, r3_13, r3_14, r3_15, r3_16, r3_17, r3_20, r3_21, tb_vl_some, tb_vl_none, tb_wF_some, nI_add, pk_mul, e_sub, e_div, tb_nmod, e_dec, e_le, e_lt, e_eq, e_eq0, e_lt0, e_0le, e_0lt, e_le0, if_true, if_false, not_true_eq_false, not_false_eq_true, ite_true, ite_false, Nat.reduceAdd, Nat.reduceMul, Nat.reduceLeDiff, Nat.reduceLT, Nat.reduceEqDiff, Nat.reduceSub, ↓reduceIte, Nat.reduceDiv, Nat.reduceMod]
  · rw [if_neg c7]
    have hon := hI.1 i (c + 1) hi (by omega)
    have hc7 : c < 7 := by omega
    simp (disch := first | assumption | omega | exact tb_sm0 | exact tb_sm1 _ | exact tb_sm2 _ _ | exact tb_sm3 _ _ _ | exact tb_sm4 _ _ _ _ | exact Or.inl rfl | exact Or.inr rfl | fail) only [r3_0, r3_1, r3_3, r3_6, r3_8, r3_11, r3_13, r3_14, r3_15, r3_16, r3_17, r3_20, r3_21, c_grainsOn hB (show c + 1 < 8 by omega), hc7, tb_vl_some, tb_vl_none, tb_wF_some, nI_add, pk_mul, e_sub, e_div, tb_nmod, e_dec, e_le, e_lt, e_eq, e_eq0, e_lt0, e_0le, e_0lt, e_le0, if_true, if_false, not_true_eq_false, not_false_eq_true, ite_true, ite_false, Nat.reduceAdd, Nat.reduceMul, Nat.reduceLeDiff, Nat.reduceLT, Nat.reduceEqDiff, Nat.reduceSub, ↓reduceIte, Nat.reduceDiv, Nat.reduceMod]
theorem c_angleAtRest {k n : Nat} (hR : tb_Ru h a s) (hI : sp_I s) (hk : k < 4) (hn : n < 2 ^ 31) : tb_wp E d 24 0 [.ref a, .int (nI k), .int (nI n), .long 0, .long 0] [] h nx 0 0 Q = Q (some (.int (nI (s (5 + k) + n / s 2)))) h nx := by
  have g := hR.g
  have i2 := hI.2.1.2
  have h2 : ¬ s 2 = 0 := by omega
  have h20 : ¬ nI (s 2) = 0 := by rw [e_eq0 (by omega)]; exact h2
  simp (disch := first | assumption | omega | exact tb_sm0 | exact tb_sm1 _ | exact tb_sm2 _ _ | exact tb_sm3 _ _ _ | exact tb_sm4 _ _ _ _ | exact Or.inl rfl | exact Or.inr rfl | fail) only [r24_0, r24_1, r24_4, r24_5, r24_6, r24_7, r24_8, r24_11, r24_12, r24_13, r24_14, r24_17, r24_18, r24_20, r24_21, r24_24, r24_25, r24_26, r24_28, r24_29, g, hR.G, hR.T, h2, tb_vl_some, tb_vl_none, tb_wF_some, nI_add, pk_mul, e_sub, e_div, tb_nmod, e_dec, e_le, e_lt, e_eq, e_eq0, e_lt0, e_0le, e_0lt, e_le0, if_true, if_false, not_true_eq_false, not_false_eq_true, ite_true, ite_false, Nat.reduceAdd, Nat.reduceMul, Nat.reduceLeDiff, Nat.reduceLT, Nat.reduceEqDiff, Nat.reduceSub, ↓reduceIte, Nat.reduceDiv, Nat.reduceMod]
theorem c_dustOf {n : Nat} (hR : tb_Ru h a s) (hI : sp_I s) (hn : n < 2 ^ 31) : tb_wp E d 25 0 [.ref a, .int (nI n), .long 0] [] h nx 0 0 Q = Q (some (.int (nI (n / s 3)))) h nx := by
  have g := hR.g
  have i2 := hI.2.1.2
  have h2 : ¬ s 3 = 0 := by omega
  have h20 : ¬ nI (s 3) = 0 := by rw [e_eq0 (by omega)]; exact h2
  simp (disch := first | assumption | omega | exact tb_sm0 | exact tb_sm1 _ | exact tb_sm2 _ _ | exact tb_sm3 _ _ _ | exact tb_sm4 _ _ _ _ | exact Or.inl rfl | exact Or.inr rfl | fail) only [r25_0, r25_1, r25_4, r25_5, r25_6, r25_7, r25_8, r25_11, r25_12, r25_13, r25_14, r25_17, r25_18, g, hR.T, h2, tb_vl_some, tb_vl_none, tb_wF_some, nI_add, pk_mul, e_sub, e_div, tb_nmod, e_dec, e_le, e_lt, e_eq, e_eq0, e_lt0, e_0le, e_0lt, e_le0, if_true, if_false, not_true_eq_false, not_false_eq_true, ite_true, ite_false, Nat.reduceAdd, Nat.reduceMul, Nat.reduceLeDiff, Nat.reduceLT, Nat.reduceEqDiff, Nat.reduceSub, ↓reduceIte, Nat.reduceDiv, Nat.reduceMod]
theorem c_angleNeeded {c k : Nat} (hB : tb_Bq h b s mv i) (hR : tb_Ru h a s) (hI : sp_I s) (hi : i < 5) (hc : c < 8) (hk : k < 4) (hm : mv (c * 4 + k) = s (208 + 32 * i + 4 * c + k)) (hd : 1 ≤ d) : tb_wp E d 4 0 [.ref b, .int (nI c), .int (nI k), .ref a, .long 0] [] h nx 0 0 Q = Q (some (.int (nI (sp_need s i c k)))) h nx := by
  have hO := hB.1.O
  have hOR := hR.O
  have g := hB.1.g
  have gr := hR.g
  have hon := hI.1 i c hi hc
  have i2 := hI.2.1
  have i3 := hI.2.2.1 k hk
  have i5 := hI.2.2.2.2 (32 * i + 4 * c + k) (by omega)
  rw [show 208 + (32 * i + 4 * c + k) = 208 + 32 * i + 4 * c + k by omega] at i5
  have hdv : sp_on s i c / s 2 ≤ 99 := Nat.le_trans (Nat.div_le_self _ _) hon
  unfold sp_need
  rcases (by omega : s (208 + 32 * i + 4 * c + k) = 0 ∨ s (208 + 32 * i + 4 * c + k) = 1) with e | e
  · rw [e] at hm
    rw [if_neg (by omega)]
    simp (disch := first | assumption | omega | exact tb_sm0 | exact tb_sm1 _ | exact tb_sm2 _ _ | exact tb_sm3 _ _ _ | exact tb_sm4 _ _ _ _ | exact Or.inl rfl | exact Or.inr rfl | fail) only [r4_0, r4_1, r4_2, r4_3, r4_4, r4_7, r4_10, r4_12, r4_13, r4_16, r4_17, r4_18, r4_21, r4_22, r4_25, r4_27, r4_28, r4_29, r4_31, r4_32, r4_35, r4_36, r4_37, r4_38, r4_41, g, gr, hB.M, c_grainsOn hB hc, c_angleAtRest hR hI hk (show sp_on s i c < 2 ^ 31 by omega), c_indexOf, hm, tb_vl_some, tb_vl_none, tb_wF_some, nI_add, pk_mul, e_sub, e_div, tb_nmod, e_dec, e_le, e_lt, e_eq, e_eq0, e_lt0, e_0le, e_0lt, e_le0, if_true, if_false, not_true_eq_false, not_false_eq_true, ite_true, ite_false, Nat.reduceAdd, Nat.reduceMul, Nat.reduceLeDiff, Nat.reduceLT, Nat.reduceEqDiff, Nat.reduceSub, ↓reduceIte, Nat.reduceDiv, Nat.reduceMod]
  · rw [e] at hm
    rw [if_pos e]
    by_cases c1 : s 1 ≤ s (5 + k) + sp_on s i c / s 2
    · by_cases c2 : 0 < s (5 + k) + sp_on s i c / s 2 - s 1
      · simp (disch := first | assumption | omega | exact tb_sm0 | exact tb_sm1 _ | exact tb_sm2 _ _ | exact tb_sm3 _ _ _ | exact tb_sm4 _ _ _ _ | exact Or.inl rfl | exact Or.inr rfl | fail) only [r4_0, r4_1, r4_2, r4_3, r4_4, r4_7, r4_10, r4_12, r4_13, r4_16, r4_17, r4_18, r4_21, r4_22, r4_25, r4_27, r4_28, r4_29, r4_31, r4_32, r4_35, r4_36, r4_37, r4_38, r4_41, g, gr, hB.M, hR.T, c_grainsOn hB hc, c_angleAtRest hR hI hk (show sp_on s i c < 2 ^ 31 by omega), c_indexOf, hm, c2, tb_vl_some, tb_vl_none, tb_wF_some, nI_add, pk_mul, e_sub, e_div, tb_nmod, e_dec, e_le, e_lt, e_eq, e_eq0, e_lt0, e_0le, e_0lt, e_le0, if_true, if_false, not_true_eq_false, not_false_eq_true, ite_true, ite_false, Nat.reduceAdd, Nat.reduceMul, Nat.reduceLeDiff, Nat.reduceLT, Nat.reduceEqDiff, Nat.reduceSub, ↓reduceIte, Nat.reduceDiv, Nat.reduceMod]
      · have e0 : s (5 + k) + sp_on s i c / s 2 - s 1 = 0 := by omega
        simp (disch := first | assumption | omega | exact tb_sm0 | exact tb_sm1 _ | exact tb_sm2 _ _ | exact tb_sm3 _ _ _ | exact tb_sm4 _ _ _ _ | exact Or.inl rfl | exact Or.inr rfl | fail) only [r4_0, r4_1, r4_2, r4_3, r4_4, r4_7, r4_10, r4_12, r4_13, r4_16, r4_17, r4_18, r4_21, r4_22, r4_25, r4_27, r4_28, r4_29, r4_31, r4_32, r4_35, r4_36, r4_37, r4_38, r4_41, g, gr, hB.M, hR.T, c_grainsOn hB hc, c_angleAtRest hR hI hk (show sp_on s i c < 2 ^ 31 by omega), c_indexOf, hm, e0, tb_vl_some, tb_vl_none, tb_wF_some, nI_add, pk_mul, e_sub, e_div, tb_nmod, e_dec, e_le, e_lt, e_eq, e_eq0, e_lt0, e_0le, e_0lt, e_le0, if_true, if_false, not_true_eq_false, not_false_eq_true, ite_true, ite_false, Nat.reduceAdd, Nat.reduceMul, Nat.reduceLeDiff, Nat.reduceLT, Nat.reduceEqDiff, Nat.reduceSub, ↓reduceIte, Nat.reduceDiv, Nat.reduceMod]
    · have c2 : s (5 + k) + sp_on s i c / s 2 < s 1 := by omega
      have c3 : s 1 < 2 ^ 30 := by omega
      have e0 : s (5 + k) + sp_on s i c / s 2 - s 1 = 0 := by omega
      rw [e0]
      simp (disch := first | assumption | omega | exact tb_sm0 | exact tb_sm1 _ | exact tb_sm2 _ _ | exact tb_sm3 _ _ _ | exact tb_sm4 _ _ _ _ | exact Or.inl rfl | exact Or.inr rfl | fail) only [r4_0, r4_1, r4_2, r4_3, r4_4, r4_7, r4_10, r4_12, r4_13, r4_16, r4_17, r4_18, r4_21, r4_22, r4_25, r4_27, r4_28, r4_29, r4_31, r4_32, r4_35, r4_36, r4_37, r4_38, r4_41, g, gr, hB.M, hR.T, c_grainsOn hB hc, c_angleAtRest hR hI hk (show sp_on s i c < 2 ^ 31 by omega), c_indexOf, hm, e_neg0 c2 c3, tb_vl_some, tb_vl_none, tb_wF_some, nI_add, pk_mul, e_eq, e_eq0, if_true, if_false, ↓reduceIte, Nat.reduceAdd, Nat.reduceEqDiff, not_false_eq_true, not_true_eq_false]
theorem c_why {c k : Nat} (hB : tb_Bq h b s mv i) (hR : tb_Ru h a s) (hI : sp_I s) (hi : i < 5) (hc : c < 8) (hk : k < 4) (hm : mv (c * 4 + k) = s (208 + 32 * i + 4 * c + k)) (hd : 2 ≤ d) : tb_wp E d 5 0 [.ref b, .int (nI c), .int (nI k), .ref a] [] h nx 0 0 Q = Q (some (.int (nI (sp_why s i c k)))) h nx := by
  have hO := hB.1.O
  have g := hB.1.g
  have e : 48 + 32 * i + (c * 4 + k) = 48 + 32 * i + 4 * c + k := by omega
  have hh := sp_heap_le hI hi hc hk
  have hn := sp_need_le hI hi hc hk
  have hr := sp_room_le s i c
  have ha := hI.2.2.2.1 i hi
  unfold sp_why
  by_cases c1 : s (48 + 32 * i + 4 * c + k) = 0
  · rw [if_pos c1]
    simp (disch := first | assumption | omega | exact tb_sm0 | exact tb_sm1 _ | exact tb_sm2 _ _ | exact tb_sm3 _ _ _ | exact tb_sm4 _ _ _ _ | exact Or.inl rfl | exact Or.inr rfl | fail) only [r5_0, r5_1, r5_4, r5_5, r5_6, r5_9, r5_10, r5_13, r5_14, r5_15, r5_16, r5_19, r5_20, r5_21, r5_22, r5_23, r5_26, r5_29, r5_30, r5_31, r5_32, r5_33, r5_36, r5_39, r5_40, r5_43, r5_44, g, hB.H, c_indexOf, e, c1, tb_vl_some, tb_vl_none, tb_wF_some, nI_add, pk_mul, e_sub, e_div, tb_nmod, e_dec, e_le, e_lt, e_eq, e_eq0, e_lt0, e_0le, e_0lt, e_le0, if_true, if_false, not_true_eq_false, not_false_eq_true, ite_true, ite_false, Nat.reduceAdd, Nat.reduceMul, Nat.reduceLeDiff, Nat.reduceLT, Nat.reduceEqDiff, Nat.reduceSub, ↓reduceIte, Nat.reduceDiv, Nat.reduceMod]
  · rw [if_neg c1]
    by_cases c2 : s (13 + i) < sp_need s i c k
    · have c2' : ¬ sp_need s i c k ≤ s (13 + i) := by omega
      rw [if_pos c2]
      simp (disch := first | assumption | omega | exact tb_sm0 | exact tb_sm1 _ | exact tb_sm2 _ _ | exact tb_sm3 _ _ _ | exact tb_sm4 _ _ _ _ | exact Or.inl rfl | exact Or.inr rfl | fail) only [r5_0, r5_1, r5_4, r5_5, r5_6, r5_9, r5_10, r5_13, r5_14, r5_15, r5_16, r5_19, r5_20, r5_21, r5_22, r5_23, r5_26, r5_29, r5_30, r5_31, r5_32, r5_33, r5_36, r5_39, r5_40, r5_43, r5_44, g, hB.H, c_indexOf, c_angleNeeded hB hR hI hi hc hk hm, e, c1, c2', tb_vl_some, tb_vl_none, tb_wF_some, nI_add, pk_mul, e_sub, e_div, tb_nmod, e_dec, e_le, e_lt, e_eq, e_eq0, e_lt0, e_0le, e_0lt, e_le0, if_true, if_false, not_true_eq_false, not_false_eq_true, ite_true, ite_false, Nat.reduceAdd, Nat.reduceMul, Nat.reduceLeDiff, Nat.reduceLT, Nat.reduceEqDiff, Nat.reduceSub, ↓reduceIte, Nat.reduceDiv, Nat.reduceMod]
    · have c2' : sp_need s i c k ≤ s (13 + i) := by omega
      rw [if_neg c2]
      by_cases c3 : sp_room s i c = 0
      · rw [if_pos c3]
        simp (disch := first | assumption | omega | exact tb_sm0 | exact tb_sm1 _ | exact tb_sm2 _ _ | exact tb_sm3 _ _ _ | exact tb_sm4 _ _ _ _ | exact Or.inl rfl | exact Or.inr rfl | fail) only [r5_0, r5_1, r5_4, r5_5, r5_6, r5_9, r5_10, r5_13, r5_14, r5_15, r5_16, r5_19, r5_20, r5_21, r5_22, r5_23, r5_26, r5_29, r5_30, r5_31, r5_32, r5_33, r5_36, r5_39, r5_40, r5_43, r5_44, g, hB.H, c_indexOf, c_angleNeeded hB hR hI hi hc hk hm, c_roomBelow hB hI hi hc, e, c1, c2', c3, tb_vl_some, tb_vl_none, tb_wF_some, nI_add, pk_mul, e_sub, e_div, tb_nmod, e_dec, e_le, e_lt, e_eq, e_eq0, e_lt0, e_0le, e_0lt, e_le0, if_true, if_false, not_true_eq_false, not_false_eq_true, ite_true, ite_false, Nat.reduceAdd, Nat.reduceMul, Nat.reduceLeDiff, Nat.reduceLT, Nat.reduceEqDiff, Nat.reduceSub, ↓reduceIte, Nat.reduceDiv, Nat.reduceMod]
      · rw [if_neg c3]
        simp (disch := first | assumption | omega | exact tb_sm0 | exact tb_sm1 _ | exact tb_sm2 _ _ | exact tb_sm3 _ _ _ | exact tb_sm4 _ _ _ _ | exact Or.inl rfl | exact Or.inr rfl | fail) only [r5_0, r5_1, r5_4, r5_5, r5_6, r5_9, r5_10, r5_13, r5_14, r5_15, r5_16, r5_19, r5_20, r5_21, r5_22, r5_23, r5_26, r5_29, r5_30, r5_31, r5_32, r5_33, r5_36, r5_39, r5_40, r5_43, r5_44, g, hB.H, c_indexOf, c_angleNeeded hB hR hI hi hc hk hm, c_roomBelow hB hI hi hc, e, c1, c2', c3, tb_vl_some, tb_vl_none, tb_wF_some, nI_add, pk_mul, e_sub, e_div, tb_nmod, e_dec, e_le, e_lt, e_eq, e_eq0, e_lt0, e_0le, e_0lt, e_le0, if_true, if_false, not_true_eq_false, not_false_eq_true, ite_true, ite_false, Nat.reduceAdd, Nat.reduceMul, Nat.reduceLeDiff, Nat.reduceLT, Nat.reduceEqDiff, Nat.reduceSub, ↓reduceIte, Nat.reduceDiv, Nat.reduceMod]
theorem c_rest_l {r : Nat} (hB : tb_Bq h b s mv i) (hR : tb_Ru h a s) (hI : sp_I s) (hi : i < 5) (hm : ∀ j, j < 32 → mv j = s (208 + 32 * i + j)) (hd : 3 ≤ d) (n : Nat) : ∀ (c : Nat) (y : Value), c + n = 8 → ((∀ c' k, c ≤ c' → c' < 8 → k < 4 → ¬ sp_why s i c' k = 0) → r = 1) → ((∃ c' k, c ≤ c' ∧ c' < 8 ∧ k < 4 ∧ sp_why s i c' k = 0) → r = 0) →
    tb_wp E d 6 2 [.ref b, .ref a, .int (nI c), y] [] h nx 0 0 Q = Q (some (.int (nI r))) h nx := by
  induction n with
  | zero =>
    intro c y hn h1 h2
    have e : r = 1 := h1 (fun c' k q1 q2 => by omega)
    have ec : c = 8 := by omega
    subst ec
    subst e
    simp (disch := first | assumption | omega | exact tb_sm0 | exact tb_sm1 _ | exact tb_sm2 _ _ | exact tb_sm3 _ _ _ | exact tb_sm4 _ _ _ _ | exact Or.inl rfl | exact Or.inr rfl | fail) only [r6_0, r6_1, r6_2, r6_3, r6_5, r6_8, r6_9, r6_10, r6_11, r6_12, r6_15, r6_16, r6_17, r6_18, r6_19, r6_22, r6_25, r6_26, r6_27, r6_30, r6_33, r6_36, r6_39, r6_40, nI_add, pk_mul, e_sub, e_div, tb_nmod, e_dec, e_le, e_lt, e_eq, e_eq0, e_lt0, e_0le, e_0lt, e_le0, if_true, if_false, not_true_eq_false, not_false_eq_true, ite_true, ite_false, Nat.reduceAdd, Nat.reduceMul, Nat.reduceLeDiff, Nat.reduceLT, Nat.reduceEqDiff, Nat.reduceSub, ↓reduceIte, Nat.reduceDiv, Nat.reduceMod]
  | succ n ih =>
    intro c y hn h1 h2
    have hO := hB.1.O
    have hc : c < 8 := by omega
    have hc8 : ¬ 8 ≤ c := by omega
    have w : ∀ k, k < 4 → mv (c * 4 + k) = s (208 + 32 * i + 4 * c + k) := fun k hk => by
      rw [hm _ (by omega)]; congr 1; omega
    have l0 := sp_why_le s i c 0
    have l1 := sp_why_le s i c 1
    have l2 := sp_why_le s i c 2
    have l3 := sp_why_le s i c 3
    have w0 := fun {Q'} => c_why (E := E) (d := d - 1) (nx := nx) (Q := Q') hB hR hI hi hc (show 0 < 4 by decide) (w 0 (by decide)) (show 2 ≤ d - 1 by omega)
    have w1 := fun {Q'} => c_why (E := E) (d := d - 1) (nx := nx) (Q := Q') hB hR hI hi hc (show 1 < 4 by decide) (w 1 (by decide)) (show 2 ≤ d - 1 by omega)
    have w2 := fun {Q'} => c_why (E := E) (d := d - 1) (nx := nx) (Q := Q') hB hR hI hi hc (show 2 < 4 by decide) (w 2 (by decide)) (show 2 ≤ d - 1 by omega)
    have w3 := fun {Q'} => c_why (E := E) (d := d - 1) (nx := nx) (Q := Q') hB hR hI hi hc (show 3 < 4 by decide) (w 3 (by decide)) (show 2 ≤ d - 1 by omega)
    simp (disch := first | assumption | omega | exact tb_sm0 | exact tb_sm1 _ | exact tb_sm2 _ _ | exact tb_sm3 _ _ _ | exact tb_sm4 _ _ _ _ | exact Or.inl rfl | exact Or.inr rfl | fail) only [r6_2, r6_3, r6_5, hc8, nI_add, pk_mul, e_sub, e_div, tb_nmod, e_dec, e_le, e_lt, e_eq, e_eq0, e_lt0, e_0le, e_0lt, e_le0, if_true, if_false, not_true_eq_false, not_false_eq_true, ite_true, ite_false, Nat.reduceAdd, Nat.reduceMul, Nat.reduceLeDiff, Nat.reduceLT, Nat.reduceEqDiff, Nat.reduceSub, ↓reduceIte, Nat.reduceDiv, Nat.reduceMod]
    by_cases c0 : sp_why s i c 0 = 0
    · have e : r = 0 := h2 ⟨c, 0, by omega, hc, by decide, c0⟩
      simp (disch := first | assumption | omega | exact tb_sm0 | exact tb_sm1 _ | exact tb_sm2 _ _ | exact tb_sm3 _ _ _ | exact tb_sm4 _ _ _ _ | exact Or.inl rfl | exact Or.inr rfl | fail) only [r6_0, r6_1, r6_3, r6_5, r6_8, r6_9, r6_10, r6_11, r6_12, r6_15, r6_16, r6_17, r6_18, r6_19, r6_22, r6_25, r6_26, r6_27, r6_30, r6_33, r6_36, r6_39, r6_40, w0, c0, e, tb_vl_some, tb_vl_none, tb_wF_some, nI_add, pk_mul, e_sub, e_div, tb_nmod, e_dec, e_le, e_lt, e_eq, e_eq0, e_lt0, e_0le, e_0lt, e_le0, if_true, if_false, not_true_eq_false, not_false_eq_true, ite_true, ite_false, Nat.reduceAdd, Nat.reduceMul, Nat.reduceLeDiff, Nat.reduceLT, Nat.reduceEqDiff, Nat.reduceSub, ↓reduceIte, Nat.reduceDiv, Nat.reduceMod]
    · by_cases c1 : sp_why s i c 1 = 0
      · have e : r = 0 := h2 ⟨c, 1, by omega, hc, by decide, c1⟩
        simp (disch := first | assumption | omega | exact tb_sm0 | exact tb_sm1 _ | exact tb_sm2 _ _ | exact tb_sm3 _ _ _ | exact tb_sm4 _ _ _ _ | exact Or.inl rfl | exact Or.inr rfl | fail) only [r6_0, r6_1, r6_3, r6_5, r6_8, r6_9, r6_10, r6_11, r6_12, r6_15, r6_16, r6_17, r6_18, r6_19, r6_22, r6_25, r6_26, r6_27, r6_30, r6_33, r6_36, r6_39, r6_40, w0, c0, w1, c1, e, tb_vl_some, tb_vl_none, tb_wF_some, nI_add, pk_mul, e_sub, e_div, tb_nmod, e_dec, e_le, e_lt, e_eq, e_eq0, e_lt0, e_0le, e_0lt, e_le0, if_true, if_false, not_true_eq_false, not_false_eq_true, ite_true, ite_false, Nat.reduceAdd, Nat.reduceMul, Nat.reduceLeDiff, Nat.reduceLT, Nat.reduceEqDiff, Nat.reduceSub, ↓reduceIte, Nat.reduceDiv, Nat.reduceMod]
      · by_cases c2 : sp_why s i c 2 = 0
        · have e : r = 0 := h2 ⟨c, 2, by omega, hc, by decide, c2⟩
          simp (disch := first | assumption | omega | exact tb_sm0 | exact tb_sm1 _ | exact tb_sm2 _ _ | exact tb_sm3 _ _ _ | exact tb_sm4 _ _ _ _ | exact Or.inl rfl | exact Or.inr rfl | fail) only [r6_0, r6_1, r6_3, r6_5, r6_8, r6_9, r6_10, r6_11, r6_12, r6_15, r6_16, r6_17, r6_18, r6_19, r6_22, r6_25, r6_26, r6_27, r6_30, r6_33, r6_36, r6_39, r6_40, w0, c0, w1, c1, w2, c2, e, tb_vl_some, tb_vl_none, tb_wF_some, nI_add, pk_mul, e_sub, e_div, tb_nmod, e_dec, e_le, e_lt, e_eq, e_eq0, e_lt0, e_0le, e_0lt, e_le0, if_true, if_false, not_true_eq_false, not_false_eq_true, ite_true, ite_false, Nat.reduceAdd, Nat.reduceMul, Nat.reduceLeDiff, Nat.reduceLT, Nat.reduceEqDiff, Nat.reduceSub, ↓reduceIte, Nat.reduceDiv, Nat.reduceMod]
        · by_cases c3 : sp_why s i c 3 = 0
          · have e : r = 0 := h2 ⟨c, 3, by omega, hc, by decide, c3⟩
            simp (disch := first | assumption | omega | exact tb_sm0 | exact tb_sm1 _ | exact tb_sm2 _ _ | exact tb_sm3 _ _ _ | exact tb_sm4 _ _ _ _ | exact Or.inl rfl | exact Or.inr rfl | fail) only [r6_0, r6_1, r6_3, r6_5, r6_8, r6_9, r6_10, r6_11, r6_12, r6_15, r6_16, r6_17, r6_18, r6_19, r6_22, r6_25, r6_26, r6_27, r6_30, r6_33, r6_36, r6_39, r6_40, w0, c0, w1, c1, w2, c2, w3, c3, e, tb_vl_some, tb_vl_none, tb_wF_some, nI_add, pk_mul, e_sub, e_div, tb_nmod, e_dec, e_le, e_lt, e_eq, e_eq0, e_lt0, e_0le, e_0lt, e_le0, if_true, if_false, not_true_eq_false, not_false_eq_true, ite_true, ite_false, Nat.reduceAdd, Nat.reduceMul, Nat.reduceLeDiff, Nat.reduceLT, Nat.reduceEqDiff, Nat.reduceSub, ↓reduceIte, Nat.reduceDiv, Nat.reduceMod]
          · simp (disch := first | assumption | omega | exact tb_sm0 | exact tb_sm1 _ | exact tb_sm2 _ _ | exact tb_sm3 _ _ _ | exact tb_sm4 _ _ _ _ | exact Or.inl rfl | exact Or.inr rfl | fail) only [r6_0, r6_1, r6_3, r6_5, r6_8, r6_9, r6_10, r6_11, r6_12, r6_15, r6_16, r6_17, r6_18, r6_19, r6_22, r6_25, r6_26, r6_27, r6_30, r6_33, r6_36, r6_39, r6_40, w0, c0, w1, c1, w2, c2, w3, c3, tb_vl_some, tb_vl_none, tb_wF_some, nI_add, pk_mul, e_sub, e_div, tb_nmod, e_dec, e_le, e_lt, e_eq, e_eq0, e_lt0, e_0le, e_0lt, e_le0, if_true, if_false, not_true_eq_false, not_false_eq_true, ite_true, ite_false, Nat.reduceAdd, Nat.reduceMul, Nat.reduceLeDiff, Nat.reduceLT, Nat.reduceEqDiff, Nat.reduceSub, ↓reduceIte, Nat.reduceDiv, Nat.reduceMod]
            refine ih (c + 1) _ (by omega) (fun q => h1 (fun c' k q1 q2 q3 => ?_)) (fun q => h2 ?_)
            · by_cases ec : c' = c
              · subst ec
                rcases (by omega : k = 0 ∨ k = 1 ∨ k = 2 ∨ k = 3) with rfl | rfl | rfl | rfl <;> assumption
              · exact q c' k (by omega) q2 q3
            · obtain ⟨c', k, q1, q2⟩ := q
              exact ⟨c', k, by omega, q2⟩
theorem c_isAtRest (hB : tb_Bq h b s mv i) (hR : tb_Ru h a s) (hI : sp_I s) (hi : i < 5) (hm : ∀ j, j < 32 → mv j = s (208 + 32 * i + j)) (hd : 3 ≤ d) : tb_wp E d 6 0 [.ref b, .ref a, .long 0, .long 0] [] h nx 0 0 Q = Q (some (.int (nI (sp_r1 s i)))) h nx := by
  simp (disch := first | assumption | omega | exact tb_sm0 | exact tb_sm1 _ | exact tb_sm2 _ _ | exact tb_sm3 _ _ _ | exact tb_sm4 _ _ _ _ | exact Or.inl rfl | exact Or.inr rfl | fail) only [r6_0, r6_1]
  refine c_rest_l hB hR hI hi hm hd 8 0 _ (by decide) (fun q => ?_) (fun q => ?_)
  · unfold sp_r1
    rw [sp_rb_t.mpr (fun k hk => q (k / 4) (k % 4) (by omega) (by omega) (by omega))]
    rfl
  · obtain ⟨c, k, q1, q2, q3, q4⟩ := q
    unfold sp_r1
    rw [sp_rb_f.mpr (fun p => p (4 * c + k) (by omega) (by rw [show (4 * c + k) / 4 = c by omega, show (4 * c + k) % 4 = k by omega]; exact q4))]
    rfl
end C1
