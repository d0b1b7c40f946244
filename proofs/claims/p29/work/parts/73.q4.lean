/-! THE LAW: all that is told goes together -/
section QO
variable {E : tb_env} {d : Nat} {h : tb_heap} {nx : Nat} {Q : Option Value → tb_heap → Nat → Prop} {x kn : Nat} {s : Nat → Nat} {hs : Nat → Nat → Nat} {g : sp_G}
theorem q_grains_5 (hC : tb_CF h x s hs kn g) (hd : 3 ≤ d) : tb_wp E d 53 0 [.ref x, .int (nI 5), .int (nI 0), .int (nI 0)] [] h nx 0 0 Q = Q (some (.int (-1))) h nx := by
  refine wp_eq (fun Q hQ => k_grains hC hd ?_)
  unfold an_grains
  rw [if_pos (Or.inl (Or.inr (by decide)))]
  exact hQ
theorem q_board_m (hC : tb_CF h x s hs kn g) (hI : sp_I s) (hd : 4 ≤ d) : tb_wp E d 54 0 [.ref x, .int (-1), .int (nI 0), .long 0] [] h nx 0 0 Q = Q (some (.int (-1))) h nx := by
  refine wp_eq (fun Q hQ => k_board hC hI hd ?_)
  unfold an_board
  rw [if_pos (Or.inl (by decide))]
  exact hQ
theorem l_hold_b {T : Nat} (hT : pp_T T s) (hT1 : T ≤ 100) (hd : 8 ≤ d) (n : Nat) : ∀ (i : Nat) (h : tb_heap), i + n = 5 → tb_CF h x s hs kn g →
    (∀ h', tb_CF h' x s hs kn g → tb_out h h' x (x + 198) → tb_wp E d 78 111 [.ref x, .int (nI (sp_acc (sp_r1 s) 5)), .int (nI (sp_acc (sp_all s) 5)), .int (nI (sp_acc (sp_pan s) 5)), .int (nI (sp_acc (fun j => s (23 + j)) 5)), .int (nI 0), .int (nI 1), .int (nI 5)] [] h' nx 0 0 Q) →
    tb_wp E d 78 43 [.ref x, .int (nI (sp_acc (sp_r1 s) i)), .int (nI (sp_acc (sp_all s) i)), .int (nI (sp_acc (sp_pan s) i)), .int (nI (sp_acc (fun j => s (23 + j)) i)), .int (nI 0), .int (nI 1), .int (nI i)] [] h nx 0 0 Q := by
  induction n with
  | zero =>
    intro i h hi hC hQ
    have e : i = 5 := by omega
    subst e
    simp (disch := first | assumption | omega | exact tb_sm0 | exact tb_sm1 _ | exact tb_sm2 _ _ | exact tb_sm3 _ _ _ | exact tb_sm4 _ _ _ _ | exact Or.inl rfl | exact Or.inr rfl | fail) only [r78_43, r78_45, r78_46, nI_add, pk_mul, e_sub, e_div, tb_nmod, e_dec, e_le, e_lt, e_eq, e_eq0, e_lt0, e_0le, e_0lt, e_le0, if_true, if_false, not_true_eq_false, not_false_eq_true, ite_true, ite_false, Nat.reduceAdd, Nat.reduceMul, Nat.reduceLeDiff, Nat.reduceLT, Nat.reduceEqDiff, Nat.reduceSub, ↓reduceIte, Nat.reduceDiv, Nat.reduceMod]
    exact hQ h hC tb_out.rf
  | succ n ih =>
    intro i h hi hC hQ
    have hi5 : ¬ 5 ≤ i := by omega
    simp (disch := first | assumption | omega | exact tb_sm0 | exact tb_sm1 _ | exact tb_sm2 _ _ | exact tb_sm3 _ _ _ | exact tb_sm4 _ _ _ _ | exact Or.inl rfl | exact Or.inr rfl | fail) only [r78_43, r78_45, r78_46, r78_49, r78_51, r78_54, r78_55, r78_57, hi5, tb_vl_some, tb_vl_none, tb_wF_some, nI_add, pk_mul, e_sub, e_div, tb_nmod, e_dec, e_le, e_lt, e_eq, e_eq0, e_lt0, e_0le, e_0lt, e_le0, if_true, if_false, not_true_eq_false, not_false_eq_true, ite_true, ite_false, Nat.reduceAdd, Nat.reduceMul, Nat.reduceLeDiff, Nat.reduceLT, Nat.reduceEqDiff, Nat.reduceSub, ↓reduceIte, Nat.reduceDiv, Nat.reduceMod]
    refine l_isBoard hC hT hT1 (by omega) (by omega) (fun h2 hC2 hF2 => ?_)
    have oX2 := hC2.1.O
    have hb5 : i < 5 := by omega
    have qb : ∀ {w : Nat} (hw : w < 8) {Q' : Option Value → tb_heap → Nat → Prop}, tb_wp E (d - 1) 54 0 [.ref x, .int (nI i), .int (nI w), .long 0] [] h2 nx 0 0 Q' = Q' (some (.int (an_board' s i w))) h2 nx := fun hw => q_board hC2 hT.1.1 (by omega) hb5 hw
    simp (disch := first | assumption | omega | exact tb_sm0 | exact tb_sm1 _ | exact tb_sm2 _ _ | exact tb_sm3 _ _ _ | exact tb_sm4 _ _ _ _ | exact Or.inl rfl | exact Or.inr rfl | fail) only [r78_60, r78_62, r78_63, r78_64, r78_66, r78_68, r78_71, r78_72, r78_73, r78_74, r78_75, r78_77, r78_78, r78_81, r78_82, r78_83, r78_84, r78_85, r78_87, r78_88, r78_91, r78_92, r78_93, r78_95, r78_96, r78_98, r78_99, r78_102, r78_103, r78_105, r78_108, qb, an_board', nI_add, tb_vl_some, tb_vl_none, tb_wF_some]
    exact ih (i + 1) h2 (by omega) hC2 (fun h3 hC3 hF3 => hQ h3 hC3 (hF2.tr hF3))
theorem l_hold_k {T : Nat} {z1 z2 z3 z4 : Value} (hC : tb_CF h x s hs kn g) (hT : pp_T T s) (hT1 : T ≤ 100) (hd : 8 ≤ d) (n : Nat) : ∀ (i : Nat), i + n = 4 →
    (tb_wp E d 78 175 [.ref x, z1, z2, z3, z4, .int (nI (sp_acc (fun j => s (9 + j)) 4)), .int (nI 1), .int (nI 4)] [] h nx 0 0 Q) →
    tb_wp E d 78 114 [.ref x, z1, z2, z3, z4, .int (nI (sp_acc (fun j => s (9 + j)) i)), .int (nI 1), .int (nI i)] [] h nx 0 0 Q := by
  induction n with
  | zero =>
    intro i hi hQ
    have e : i = 4 := by omega
    subst e
    simp (disch := first | assumption | omega | exact tb_sm0 | exact tb_sm1 _ | exact tb_sm2 _ _ | exact tb_sm3 _ _ _ | exact tb_sm4 _ _ _ _ | exact Or.inl rfl | exact Or.inr rfl | fail) only [r78_114, r78_116, r78_117, nI_add, pk_mul, e_sub, e_div, tb_nmod, e_dec, e_le, e_lt, e_eq, e_eq0, e_lt0, e_0le, e_0lt, e_le0, if_true, if_false, not_true_eq_false, not_false_eq_true, ite_true, ite_false, Nat.reduceAdd, Nat.reduceMul, Nat.reduceLeDiff, Nat.reduceLT, Nat.reduceEqDiff, Nat.reduceSub, ↓reduceIte, Nat.reduceDiv, Nat.reduceMod]
    exact hQ
  | succ n ih =>
    intro i hi hQ
    have oX := hC.1.O
    have hi4 : ¬ 4 ≤ i := by omega
    have hk4 : i < 4 := by omega
    have v1 := hT.2.1.1 i hk4
    have t4 := hT.2.2.2 i hk4
    have q1 : ∀ {Q' : Option Value → tb_heap → Nat → Prop}, tb_wp E (d - 1) 56 0 [.ref x, .int (nI i), .int (nI 1)] [] h nx 0 0 Q' = Q' (some (.int (nI (pp_G s i)))) h nx := q_kind hC (by omega) hk4 (by decide)
    have q2 : ∀ {Q' : Option Value → tb_heap → Nat → Prop}, tb_wp E (d - 1) 56 0 [.ref x, .int (nI i), .int (nI 2)] [] h nx 0 0 Q' = Q' (some (.int (nI (pp_P s i)))) h nx := q_kind hC (by omega) hk4 (by decide)
    have q3 : ∀ {Q' : Option Value → tb_heap → Nat → Prop}, tb_wp E (d - 1) 56 0 [.ref x, .int (nI i), .int (nI 3)] [] h nx 0 0 Q' = Q' (some (.int (nI (s (9 + i))))) h nx := q_kind hC (by omega) hk4 (by decide)
    have lt : ¬ s (9 + i) < pp_G s i + pp_P s i := by omega
    simp (disch := first | assumption | omega | exact tb_sm0 | exact tb_sm1 _ | exact tb_sm2 _ _ | exact tb_sm3 _ _ _ | exact tb_sm4 _ _ _ _ | exact Or.inl rfl | exact Or.inr rfl | fail) only [r78_114, r78_116, r78_117, hi4, nI_add, pk_mul, e_sub, e_div, tb_nmod, e_dec, e_le, e_lt, e_eq, e_eq0, e_lt0, e_0le, e_0lt, e_le0, if_true, if_false, not_true_eq_false, not_false_eq_true, ite_true, ite_false, Nat.reduceAdd, Nat.reduceMul, Nat.reduceLeDiff, Nat.reduceLT, Nat.reduceEqDiff, Nat.reduceSub, ↓reduceIte, Nat.reduceDiv, Nat.reduceMod]
    simp (disch := first | assumption | omega | exact tb_sm0 | exact tb_sm1 _ | exact tb_sm2 _ _ | exact tb_sm3 _ _ _ | exact tb_sm4 _ _ _ _ | exact Or.inl rfl | exact Or.inr rfl | fail) only [r78_120, r78_122, r78_125, r78_127, r78_128, r78_130, r78_131, r78_134, r78_135, r78_137, r78_138, r78_140, r78_141, r78_144, r78_145, r78_147, r78_148, r78_151, r78_152, r78_153, r78_155, r78_156, r78_159, r78_162, r78_163, r78_166, r78_167, r78_169, r78_172, q1, q2, q3, lt, nI_add, tb_vl_some, tb_vl_none, tb_wF_some, nI_add, pk_mul, e_sub, e_div, tb_nmod, e_dec, e_le, e_lt, e_eq, e_eq0, e_lt0, e_0le, e_0lt, e_le0, if_true, if_false, not_true_eq_false, not_false_eq_true, ite_true, ite_false, Nat.reduceAdd, Nat.reduceMul, Nat.reduceLeDiff, Nat.reduceLT, Nat.reduceEqDiff, Nat.reduceSub, ↓reduceIte, Nat.reduceDiv, Nat.reduceMod]
    exact ih (i + 1) (by omega) hQ
theorem lz_holds {T : Nat} (hC : tb_CF h x s hs kn g) (hT : pp_T T s) (hT1 : T ≤ 100) (hd : 8 ≤ d) (hQ : ∀ h', tb_CF h' x s hs kn g → tb_out h h' x (x + 198) → Q (some (.int (nI 1))) h' nx) :
    tb_wp E d 78 0 [.ref x, .long 0, .long 0, .long 0, .long 0, .long 0, .long 0, .long 0] [] h nx 0 0 Q := by
  have oX := hC.1.O
  have q5 : ∀ {Q' : Option Value → tb_heap → Nat → Prop}, tb_wp E (d - 1) 53 0 [.ref x, .int (nI 5), .int (nI 0), .int (nI 0)] [] h nx 0 0 Q' = Q' (some (.int (-1))) h nx := q_grains_5 hC (by omega)
  have qm : ∀ {Q' : Option Value → tb_heap → Nat → Prop}, tb_wp E (d - 1) 54 0 [.ref x, .int (-1), .int (nI 0), .long 0] [] h nx 0 0 Q' = Q' (some (.int (-1))) h nx := q_board_m hC hT.1.1 (by omega)
  simp (disch := first | assumption | omega | exact tb_sm0 | exact tb_sm1 _ | exact tb_sm2 _ _ | exact tb_sm3 _ _ _ | exact tb_sm4 _ _ _ _ | exact Or.inl rfl | exact Or.inr rfl | fail) only [r78_0, r78_1, r78_2, r78_3, r78_4, r78_5, r78_6, r78_7, r78_9, r78_10, r78_12, r78_13, r78_14, r78_15, r78_16, r78_19, r78_20, r78_23, r78_24, r78_25, r78_26, r78_29, r78_30, r78_33, r78_34, r78_37, r78_38, r78_40, r78_41, q5, qm, eq_self, tb_vl_some, tb_vl_none, tb_wF_some, nI_add, pk_mul, e_sub, e_div, tb_nmod, e_dec, e_le, e_lt, e_eq, e_eq0, e_lt0, e_0le, e_0lt, e_le0, if_true, if_false, not_true_eq_false, not_false_eq_true, ite_true, ite_false, Nat.reduceAdd, Nat.reduceMul, Nat.reduceLeDiff, Nat.reduceLT, Nat.reduceEqDiff, Nat.reduceSub, ↓reduceIte, Nat.reduceDiv, Nat.reduceMod]
  refine l_hold_b hT hT1 hd 5 0 h rfl hC (fun h2 hC2 hF2 => ?_)
  have oX2 := hC2.1.O
  simp (disch := first | assumption | omega | exact tb_sm0 | exact tb_sm1 _ | exact tb_sm2 _ _ | exact tb_sm3 _ _ _ | exact tb_sm4 _ _ _ _ | exact Or.inl rfl | exact Or.inr rfl | fail) only [r78_111, r78_112]
  refine l_hold_k (h := h2) hC2 hT hT1 hd 4 0 rfl ?_
  have hI := hT.1.1
  have e9 : sp_acc (fun j => s (9 + j)) 4 = pp_A s + pp_N s + pp_U s + s 4 := by
    rw [hT.2.1.2.1]
    simp only [sp_acc, Nat.zero_add, Nat.add_zero, Nat.reduceAdd]
  have er : sp_acc (sp_r1 s) 5 = sp_r1 s 0 + sp_r1 s 1 + sp_r1 s 2 + sp_r1 s 3 + sp_r1 s 4 := by simp only [sp_acc, Nat.zero_add]
  have ea : sp_acc (sp_all s) 5 = pp_A s := by simp only [sp_acc, Nat.zero_add, pp_A]
  have en : sp_acc (sp_pan s) 5 = pp_N s := by simp only [sp_acc, Nat.zero_add, pp_N]
  rw [e9, er, ea, en, U_acc]
  have c6 : ∀ {Q' : Option Value → tb_heap → Nat → Prop}, tb_wp E (d - 1) 64 0 [.ref x, .int (nI 6)] [] h2 nx 0 0 Q' = Q' (some (.int (nI (sp_r1 s 0 + sp_r1 s 1 + sp_r1 s 2 + sp_r1 s 3 + sp_r1 s 4)))) h2 nx := q_count hC2 hI (by omega) (by decide)
  have c1 : ∀ {Q' : Option Value → tb_heap → Nat → Prop}, tb_wp E (d - 1) 64 0 [.ref x, .int (nI 1)] [] h2 nx 0 0 Q' = Q' (some (.int (nI (pp_A s)))) h2 nx := by
    intro Q'
    rw [← A_acc]
    exact q_count hC2 hI (by omega) (by decide)
  have c2 : ∀ {Q' : Option Value → tb_heap → Nat → Prop}, tb_wp E (d - 1) 64 0 [.ref x, .int (nI 2)] [] h2 nx 0 0 Q' = Q' (some (.int (nI (pp_N s)))) h2 nx := by
    intro Q'
    rw [← N_acc]
    exact q_count hC2 hI (by omega) (by decide)
  have c3 : ∀ {Q' : Option Value → tb_heap → Nat → Prop}, tb_wp E (d - 1) 64 0 [.ref x, .int (nI 3)] [] h2 nx 0 0 Q' = Q' (some (.int (nI (pp_U s)))) h2 nx := by
    intro Q'
    rw [← U_acc]
    exact q_count hC2 hI (by omega) (by decide)
  have c4 : ∀ {Q' : Option Value → tb_heap → Nat → Prop}, tb_wp E (d - 1) 64 0 [.ref x, .int (nI 4)] [] h2 nx 0 0 Q' = Q' (some (.int (nI (pp_A s + pp_N s + pp_U s + s 4)))) h2 nx := by
    intro Q'
    rw [← e9]
    exact q_count hC2 hI (by omega) (by decide)
  have c5 : ∀ {Q' : Option Value → tb_heap → Nat → Prop}, tb_wp E (d - 1) 64 0 [.ref x, .int (nI 5)] [] h2 nx 0 0 Q' = Q' (some (.int (nI (s 4)))) h2 nx := q_count hC2 hI (by omega) (by decide)
  simp (disch := first | assumption | omega | exact tb_sm0 | exact tb_sm1 _ | exact tb_sm2 _ _ | exact tb_sm3 _ _ _ | exact tb_sm4 _ _ _ _ | exact Or.inl rfl | exact Or.inr rfl | fail) only [r78_175, r78_177, r78_180, r78_181, r78_182, r78_184, r78_187, r78_190, r78_191, r78_192, r78_193, r78_196, r78_199, r78_200, r78_201, r78_202, r78_205, r78_208, r78_210, r78_211, r78_212, r78_215, r78_218, r78_220, r78_221, r78_222, r78_225, r78_228, r78_229, r78_232, r78_233, r78_235, r78_237, r78_240, r78_241, r78_242, r78_245, r78_246, r78_247, r78_248, r78_250, r78_251, r78_252, r78_253, r78_256, r78_257, r78_260, r78_261, r78_264, r78_265, c1, c2, c3, c4, c5, c6, nI_add, eq_self, tb_vl_some, tb_vl_none, tb_wF_some, nI_add, pk_mul, e_sub, e_div, tb_nmod, e_dec, e_le, e_lt, e_eq, e_eq0, e_lt0, e_0le, e_0lt, e_le0, if_true, if_false, not_true_eq_false, not_false_eq_true, ite_true, ite_false, Nat.reduceAdd, Nat.reduceMul, Nat.reduceLeDiff, Nat.reduceLT, Nat.reduceEqDiff, Nat.reduceSub, ↓reduceIte, Nat.reduceDiv, Nat.reduceMod]
  exact hQ h2 hC2 hF2
end QO
