/-! THE LAW: a heap, a board -/
theorem e_0leN {a b : Nat} (h : a < b) (hb : b < 2 ^ 30) : (0 ≤ nI a - nI b) = False := by
  have h1 : nI a - nI b < 0 := by rw [e_neg h hb]; trivial
  exact eq_false (fun q => Int32.lt_irrefl (Int32.lt_of_lt_of_le h1 q))
section QH
variable {E : tb_env} {d : Nat} {h : tb_heap} {nx : Nat} {Q : Option Value → tb_heap → Nat → Prop} {x kn : Nat} {s : Nat → Nat} {hs : Nat → Nat → Nat} {g : sp_G}
theorem l_isHeap {b c k : Nat} (hC : tb_CF h x s hs kn g) (hI : sp_I s) (hb : b < 5) (hc : c < 8) (hk : k < 4) (hd : 6 ≤ d) : tb_wp E d 76 0 [.ref x, .int (nI b), .int (nI c), .int (nI k), .long 0, .long 0, .long 0, .long 0, .long 0, .long 0, .long 0] [] h nx 0 0 Q = Q (some (.int (nI 1))) h nx := by
  have oX := hC.1.O
  obtain ⟨i1, ⟨i2, i3, i4, i5, i6⟩, i7, i8, i9⟩ := id hI
  have hon := i1 b c hb hc
  have hgr := i7 k hk
  have han := i8 b hb
  have hw99 := sp_heap_le hI hb hc hk
  have hdv : sp_on s b c / s 2 ≤ 99 := Nat.le_trans (Nat.div_le_self _ _) hon
  have hnd := sp_need_le hI hb hc hk
  have hrm := sp_room_le s b c
  have h99 : ¬ 99 < sp_on s b c := by omega
  have hz : ¬ nI (s 2) = 0 := by rw [e_eq0 (by omega)]; omega
  have qo : ∀ {c' : Nat} (hc' : c' < 8) {Q' : Option Value → tb_heap → Nat → Prop}, tb_wp E (d - 1) 75 0 [.ref x, .int (nI b), .int (nI c'), .long 0, .long 0] [] h nx 0 0 Q' = Q' (some (.int (nI (sp_on s b c')))) h nx := fun hc' => l_onCell hC hb hc' (by omega)
  have qg : ∀ {Q' : Option Value → tb_heap → Nat → Prop}, tb_wp E (d - 1) 53 0 [.ref x, .int (nI b), .int (nI c), .int (nI k)] [] h nx 0 0 Q' = Q' (some (.int (nI (s (48 + 32 * b + 4 * c + k))))) h nx := q_grains hC (by omega) hb hc hk
  have qk : ∀ {Q' : Option Value → tb_heap → Nat → Prop}, tb_wp E (d - 1) 56 0 [.ref x, .int (nI k), .int (nI 0)] [] h nx 0 0 Q' = Q' (some (.int (nI (s (5 + k))))) h nx := q_kind hC (by omega) hk (by decide)
  have qb : ∀ {Q' : Option Value → tb_heap → Nat → Prop}, tb_wp E (d - 1) 54 0 [.ref x, .int (nI b), .int (nI 0), .long 0] [] h nx 0 0 Q' = Q' (some (.int (nI (s (13 + b))))) h nx := q_board hC hI (by omega) hb (by decide)
  have q7 : ∀ {Q' : Option Value → tb_heap → Nat → Prop}, tb_wp E (d - 1) 64 0 [.ref x, .int (nI 7)] [] h nx 0 0 Q' = Q' (some (.int (nI (s 1)))) h nx := q_count hC hI (by omega) (by decide)
  have q8 : ∀ {Q' : Option Value → tb_heap → Nat → Prop}, tb_wp E (d - 1) 64 0 [.ref x, .int (nI 8)] [] h nx 0 0 Q' = Q' (some (.int (nI (s 2)))) h nx := q_count hC hI (by omega) (by decide)
  have qn : ∀ {Q' : Option Value → tb_heap → Nat → Prop}, tb_wp E (d - 1) 57 0 [.ref x, .int (nI b), .int (nI c), .int (nI k), .long 0] [] h nx 0 0 Q' = Q' (some (.int (if s (48 + 32 * b + 4 * c + k) = 0 then -5 else nI (sp_need s b c k)))) h nx := q_needs hC hI (by omega) hb hc hk
  have qr : ∀ {Q' : Option Value → tb_heap → Nat → Prop}, tb_wp E (d - 1) 58 0 [.ref x, .int (nI b), .int (nI c), .int (nI k)] [] h nx 0 0 Q' = Q' (some (.int (nI (sp_why s b c k)))) h nx := q_reason hC hI (by omega) hb hc hk
  have cn : sp_need s b c k = s (5 + k) + sp_on s b c / s 2 ∨ sp_need s b c k = s (5 + k) + sp_on s b c / s 2 - s 1 := by
    unfold sp_need
    split
    · exact Or.inr rfl
    · exact Or.inl rfl
  have k131 : ∀ (told : Int32) (y : Value), told = (if s (48 + 32 * b + 4 * c + k) = 0 then -5 else nI (sp_need s b c k)) → tb_wp E d 76 131 [.ref x, .int (nI b), .int (nI c), .int (nI k), .int (nI (sp_on s b c)), .int (nI (s (48 + 32 * b + 4 * c + k))), .int (nI (s (5 + k) + sp_on s b c / s 2)), .int (nI (s (5 + k) + sp_on s b c / s 2 - s 1)), .int told, y, .int (nI (sp_why s b c k))] [] h nx 0 0 Q = Q (some (.int (nI 1))) h nx := by
    intro told y ht
    by_cases w0 : s (48 + 32 * b + 4 * c + k) = 0
    · rw [if_pos w0] at ht
      subst ht
      simp (disch := first | assumption | omega | exact tb_sm0 | exact tb_sm1 _ | exact tb_sm2 _ _ | exact tb_sm3 _ _ _ | exact tb_sm4 _ _ _ _ | exact Or.inl rfl | exact Or.inr rfl | fail) only [r76_131, r76_132, r76_133, r76_134, r76_135, r76_138, r76_140, r76_143, r76_145, r76_148, r76_150, r76_152, r76_155, r76_158, r76_160, r76_162, r76_165, r76_167, r76_169, r76_172, r76_174, r76_176, r76_179, r76_180, r76_183, r76_184, qr, w0, eq_self, tb_vl_some, tb_vl_none, tb_wF_some, nI_add, pk_mul, e_sub, e_div, tb_nmod, e_dec, e_le, e_lt, e_eq, e_eq0, e_lt0, e_0le, e_0lt, e_le0, if_true, if_false, not_true_eq_false, not_false_eq_true, ite_true, ite_false, Nat.reduceAdd, Nat.reduceMul, Nat.reduceLeDiff, Nat.reduceLT, Nat.reduceEqDiff, Nat.reduceSub, ↓reduceIte, Nat.reduceDiv, Nat.reduceMod]
    · rw [if_neg w0] at ht
      subst ht
      rcases cn with e | e
      · simp (disch := first | assumption | omega | exact tb_sm0 | exact tb_sm1 _ | exact tb_sm2 _ _ | exact tb_sm3 _ _ _ | exact tb_sm4 _ _ _ _ | exact Or.inl rfl | exact Or.inr rfl | fail) only [r76_131, r76_132, r76_133, r76_134, r76_135, r76_138, r76_140, r76_143, r76_145, r76_148, r76_150, r76_152, r76_155, r76_158, r76_160, r76_162, r76_165, r76_167, r76_169, r76_172, r76_174, r76_176, r76_179, r76_180, r76_183, r76_184, qr, w0, e, h99, eq_self, tb_vl_some, tb_vl_none, tb_wF_some, nI_add, pk_mul, e_sub, e_div, tb_nmod, e_dec, e_le, e_lt, e_eq, e_eq0, e_lt0, e_0le, e_0lt, e_le0, if_true, if_false, not_true_eq_false, not_false_eq_true, ite_true, ite_false, Nat.reduceAdd, Nat.reduceMul, Nat.reduceLeDiff, Nat.reduceLT, Nat.reduceEqDiff, Nat.reduceSub, ↓reduceIte, Nat.reduceDiv, Nat.reduceMod]
      · by_cases e2 : s (5 + k) + sp_on s b c / s 2 - s 1 = s (5 + k) + sp_on s b c / s 2
        · simp (disch := first | assumption | omega | exact tb_sm0 | exact tb_sm1 _ | exact tb_sm2 _ _ | exact tb_sm3 _ _ _ | exact tb_sm4 _ _ _ _ | exact Or.inl rfl | exact Or.inr rfl | fail) only [r76_131, r76_132, r76_133, r76_134, r76_135, r76_138, r76_140, r76_143, r76_145, r76_148, r76_150, r76_152, r76_155, r76_158, r76_160, r76_162, r76_165, r76_167, r76_169, r76_172, r76_174, r76_176, r76_179, r76_180, r76_183, r76_184, qr, w0, e, e2, h99, eq_self, tb_vl_some, tb_vl_none, tb_wF_some, nI_add, pk_mul, e_sub, e_div, tb_nmod, e_dec, e_le, e_lt, e_eq, e_eq0, e_lt0, e_0le, e_0lt, e_le0, if_true, if_false, not_true_eq_false, not_false_eq_true, ite_true, ite_false, Nat.reduceAdd, Nat.reduceMul, Nat.reduceLeDiff, Nat.reduceLT, Nat.reduceEqDiff, Nat.reduceSub, ↓reduceIte, Nat.reduceDiv, Nat.reduceMod]
        · simp (disch := first | assumption | omega | exact tb_sm0 | exact tb_sm1 _ | exact tb_sm2 _ _ | exact tb_sm3 _ _ _ | exact tb_sm4 _ _ _ _ | exact Or.inl rfl | exact Or.inr rfl | fail) only [r76_131, r76_132, r76_133, r76_134, r76_135, r76_138, r76_140, r76_143, r76_145, r76_148, r76_150, r76_152, r76_155, r76_158, r76_160, r76_162, r76_165, r76_167, r76_169, r76_172, r76_174, r76_176, r76_179, r76_180, r76_183, r76_184, qr, w0, e, e2, h99, eq_self, tb_vl_some, tb_vl_none, tb_wF_some, nI_add, pk_mul, e_sub, e_div, tb_nmod, e_dec, e_le, e_lt, e_eq, e_eq0, e_lt0, e_0le, e_0lt, e_le0, if_true, if_false, not_true_eq_false, not_false_eq_true, ite_true, ite_false, Nat.reduceAdd, Nat.reduceMul, Nat.reduceLeDiff, Nat.reduceLT, Nat.reduceEqDiff, Nat.reduceSub, ↓reduceIte, Nat.reduceDiv, Nat.reduceMod]
  have k95 : ∀ (told : Int32), told = (if s (48 + 32 * b + 4 * c + k) = 0 then -5 else nI (sp_need s b c k)) → tb_wp E d 76 95 [.ref x, .int (nI b), .int (nI c), .int (nI k), .int (nI (sp_on s b c)), .int (nI (s (48 + 32 * b + 4 * c + k))), .int (nI (s (5 + k) + sp_on s b c / s 2)), .int (nI (s (5 + k) + sp_on s b c / s 2 - s 1)), .int told, .int (nI (sp_room s b c)), .long 0] [] h nx 0 0 Q = Q (some (.int (nI 1))) h nx := by
    intro told ht
    have kk := k131 told (.int (nI (sp_room s b c))) ht
    by_cases w0 : s (48 + 32 * b + 4 * c + k) = 0
    · have ew : sp_why s b c k = 1 := by unfold sp_why; rw [if_pos w0]
      rw [ew] at kk
      simp (disch := first | assumption | omega | exact tb_sm0 | exact tb_sm1 _ | exact tb_sm2 _ _ | exact tb_sm3 _ _ _ | exact tb_sm4 _ _ _ _ | exact Or.inl rfl | exact Or.inr rfl | fail) only [r76_95, r76_97, r76_100, r76_101, r76_104, r76_105, r76_106, r76_107, r76_110, r76_112, r76_115, r76_116, r76_119, r76_121, r76_124, r76_125, r76_128, r76_129, w0, eq_self, tb_vl_some, tb_vl_none, tb_wF_some, nI_add, pk_mul, e_sub, e_div, tb_nmod, e_dec, e_le, e_lt, e_eq, e_eq0, e_lt0, e_0le, e_0lt, e_le0, if_true, if_false, not_true_eq_false, not_false_eq_true, ite_true, ite_false, Nat.reduceAdd, Nat.reduceMul, Nat.reduceLeDiff, Nat.reduceLT, Nat.reduceEqDiff, Nat.reduceSub, ↓reduceIte, Nat.reduceDiv, Nat.reduceMod]
      rw [w0] at kk
      exact kk
    · rw [if_neg w0] at ht
      subst ht
      by_cases a1 : s (13 + b) < sp_need s b c k
      · have ew : sp_why s b c k = 2 := by unfold sp_why; rw [if_neg w0, if_pos a1]
        have a2 : ¬ sp_need s b c k ≤ s (13 + b) := by omega
        rw [ew] at kk
        simp (disch := first | assumption | omega | exact tb_sm0 | exact tb_sm1 _ | exact tb_sm2 _ _ | exact tb_sm3 _ _ _ | exact tb_sm4 _ _ _ _ | exact Or.inl rfl | exact Or.inr rfl | fail) only [r76_95, r76_97, r76_100, r76_101, r76_104, r76_105, r76_106, r76_107, r76_110, r76_112, r76_115, r76_116, r76_119, r76_121, r76_124, r76_125, r76_128, r76_129, qb, w0, a2, tb_vl_some, tb_vl_none, tb_wF_some, nI_add, pk_mul, e_sub, e_div, tb_nmod, e_dec, e_le, e_lt, e_eq, e_eq0, e_lt0, e_0le, e_0lt, e_le0, if_true, if_false, not_true_eq_false, not_false_eq_true, ite_true, ite_false, Nat.reduceAdd, Nat.reduceMul, Nat.reduceLeDiff, Nat.reduceLT, Nat.reduceEqDiff, Nat.reduceSub, ↓reduceIte, Nat.reduceDiv, Nat.reduceMod]
        exact kk
      · have a2 : sp_need s b c k ≤ s (13 + b) := by omega
        by_cases r0 : sp_room s b c = 0
        · have ew : sp_why s b c k = 3 := by unfold sp_why; rw [if_neg w0, if_neg a1, if_pos r0]
          rw [ew] at kk
          rw [r0] at kk ⊢
          simp (disch := first | assumption | omega | exact tb_sm0 | exact tb_sm1 _ | exact tb_sm2 _ _ | exact tb_sm3 _ _ _ | exact tb_sm4 _ _ _ _ | exact Or.inl rfl | exact Or.inr rfl | fail) only [r76_95, r76_97, r76_100, r76_101, r76_104, r76_105, r76_106, r76_107, r76_110, r76_112, r76_115, r76_116, r76_119, r76_121, r76_124, r76_125, r76_128, r76_129, qb, w0, a2, tb_vl_some, tb_vl_none, tb_wF_some, nI_add, pk_mul, e_sub, e_div, tb_nmod, e_dec, e_le, e_lt, e_eq, e_eq0, e_lt0, e_0le, e_0lt, e_le0, if_true, if_false, not_true_eq_false, not_false_eq_true, ite_true, ite_false, Nat.reduceAdd, Nat.reduceMul, Nat.reduceLeDiff, Nat.reduceLT, Nat.reduceEqDiff, Nat.reduceSub, ↓reduceIte, Nat.reduceDiv, Nat.reduceMod]
          exact kk
        · have ew : sp_why s b c k = 0 := by unfold sp_why; rw [if_neg w0, if_neg a1, if_neg r0]
          rw [ew] at kk
          simp (disch := first | assumption | omega | exact tb_sm0 | exact tb_sm1 _ | exact tb_sm2 _ _ | exact tb_sm3 _ _ _ | exact tb_sm4 _ _ _ _ | exact Or.inl rfl | exact Or.inr rfl | fail) only [r76_95, r76_97, r76_100, r76_101, r76_104, r76_105, r76_106, r76_107, r76_110, r76_112, r76_115, r76_116, r76_119, r76_121, r76_124, r76_125, r76_128, r76_129, qb, w0, a2, r0, tb_vl_some, tb_vl_none, tb_wF_some, nI_add, pk_mul, e_sub, e_div, tb_nmod, e_dec, e_le, e_lt, e_eq, e_eq0, e_lt0, e_0le, e_0lt, e_le0, if_true, if_false, not_true_eq_false, not_false_eq_true, ite_true, ite_false, Nat.reduceAdd, Nat.reduceMul, Nat.reduceLeDiff, Nat.reduceLT, Nat.reduceEqDiff, Nat.reduceSub, ↓reduceIte, Nat.reduceDiv, Nat.reduceMod]
          exact kk
  have k62 : tb_wp E d 76 62 [.ref x, .int (nI b), .int (nI c), .int (nI k), .int (nI (sp_on s b c)), .int (nI (s (48 + 32 * b + 4 * c + k))), .int (nI (s (5 + k) + sp_on s b c / s 2)), .int (nI (s (5 + k) + sp_on s b c / s 2 - s 1)), .long 0, .long 0, .long 0] [] h nx 0 0 Q = Q (some (.int (nI 1))) h nx := by
    have kk := k95 _ rfl
    by_cases c7 : c = 7
    · have er : sp_room s b c = 99 := by unfold sp_room; rw [if_pos c7]
      rw [er] at kk
      simp (disch := first | assumption | omega | exact tb_sm0 | exact tb_sm1 _ | exact tb_sm2 _ _ | exact tb_sm3 _ _ _ | exact tb_sm4 _ _ _ _ | exact Or.inl rfl | exact Or.inr rfl | fail) only [r76_62, r76_63, r76_64, r76_65, r76_66, r76_69, r76_71, r76_72, r76_74, r76_77, r76_79, r76_82, r76_84, r76_85, r76_86, r76_87, r76_88, r76_89, r76_92, r76_93, qn, eq_true c7, tb_vl_some, tb_vl_none, tb_wF_some, nI_add, pk_mul, e_sub, e_div, tb_nmod, e_dec, e_le, e_lt, e_eq, e_eq0, e_lt0, e_0le, e_0lt, e_le0, if_true, if_false, not_true_eq_false, not_false_eq_true, ite_true, ite_false, Nat.reduceAdd, Nat.reduceMul, Nat.reduceLeDiff, Nat.reduceLT, Nat.reduceEqDiff, Nat.reduceSub, ↓reduceIte, Nat.reduceDiv, Nat.reduceMod]
      exact kk
    · have er : sp_room s b c = 99 - sp_on s b (c + 1) := by unfold sp_room; rw [if_neg c7]
      have := i1 b (c + 1) hb (by omega)
      rw [er] at kk
      simp (disch := first | assumption | omega | exact tb_sm0 | exact tb_sm1 _ | exact tb_sm2 _ _ | exact tb_sm3 _ _ _ | exact tb_sm4 _ _ _ _ | exact Or.inl rfl | exact Or.inr rfl | fail) only [r76_62, r76_63, r76_64, r76_65, r76_66, r76_69, r76_71, r76_72, r76_74, r76_77, r76_79, r76_82, r76_84, r76_85, r76_86, r76_87, r76_88, r76_89, r76_92, r76_93, qn, qo, c7, tb_vl_some, tb_vl_none, tb_wF_some, nI_add, pk_mul, e_sub, e_div, tb_nmod, e_dec, e_le, e_lt, e_eq, e_eq0, e_lt0, e_0le, e_0lt, e_le0, if_true, if_false, not_true_eq_false, not_false_eq_true, ite_true, ite_false, Nat.reduceAdd, Nat.reduceMul, Nat.reduceLeDiff, Nat.reduceLT, Nat.reduceEqDiff, Nat.reduceSub, ↓reduceIte, Nat.reduceDiv, Nat.reduceMod]
      exact kk
  by_cases a1 : s 1 ≤ s (5 + k) + sp_on s b c / s 2
  · simp (disch := first | assumption | omega | exact tb_sm0 | exact tb_sm1 _ | exact tb_sm2 _ _ | exact tb_sm3 _ _ _ | exact tb_sm4 _ _ _ _ | exact Or.inl rfl | exact Or.inr rfl | fail) only [r76_0, r76_1, r76_2, r76_3, r76_6, r76_8, r76_9, r76_10, r76_11, r76_12, r76_15, r76_17, r76_18, r76_19, r76_20, r76_23, r76_25, r76_26, r76_28, r76_31, r76_32, r76_33, r76_35, r76_37, r76_38, r76_40, r76_43, r76_44, r76_47, r76_48, r76_51, r76_53, r76_54, r76_56, r76_59, r76_60, qo, qg, qk, q7, q8, tb_vl_some, tb_vl_none, tb_wF_some, nI_add, pk_mul, e_sub, e_div, tb_nmod, e_dec, e_le, e_lt, e_eq, e_eq0, e_lt0, e_0le, e_0lt, e_le0, if_true, if_false, not_true_eq_false, not_false_eq_true, ite_true, ite_false, Nat.reduceAdd, Nat.reduceMul, Nat.reduceLeDiff, Nat.reduceLT, Nat.reduceEqDiff, Nat.reduceSub, ↓reduceIte, Nat.reduceDiv, Nat.reduceMod]
    exact k62
  · have e0 : s (5 + k) + sp_on s b c / s 2 - s 1 = 0 := by omega
    rw [e0] at k62
    have en := e_0leN (show s (5 + k) + sp_on s b c / s 2 < s 1 by omega) (show s 1 < 2 ^ 30 by omega)
    simp (disch := first | assumption | omega | exact tb_sm0 | exact tb_sm1 _ | exact tb_sm2 _ _ | exact tb_sm3 _ _ _ | exact tb_sm4 _ _ _ _ | exact Or.inl rfl | exact Or.inr rfl | fail) only [r76_0, r76_1, r76_2, r76_3, r76_6, r76_8, r76_9, r76_10, r76_11, r76_12, r76_15, r76_17, r76_18, r76_19, r76_20, r76_23, r76_25, r76_26, r76_28, r76_31, r76_32, r76_33, r76_35, r76_37, r76_38, r76_40, r76_43, r76_44, r76_47, r76_48, r76_51, r76_53, r76_54, r76_56, r76_59, r76_60, qo, qg, qk, q7, q8, en, tb_vl_some, tb_vl_none, tb_wF_some, nI_add, pk_mul, e_sub, e_div, tb_nmod, e_dec, e_le, e_lt, e_eq, e_eq0, e_lt0, e_0le, e_0lt, e_le0, if_true, if_false, not_true_eq_false, not_false_eq_true, ite_true, ite_false, Nat.reduceAdd, Nat.reduceMul, Nat.reduceLeDiff, Nat.reduceLT, Nat.reduceEqDiff, Nat.reduceSub, ↓reduceIte, Nat.reduceDiv, Nat.reduceMod]
    exact k62
end QH
