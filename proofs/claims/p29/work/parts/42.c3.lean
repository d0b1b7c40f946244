/-! THE CLASS: one tick of a board -/
theorem tb_isA.cp {h : tb_heap} {a b ty n : Nat} {F G : Nat → Int32} (hA : tb_isA h a ty n F) (hB : tb_isA h b ty n G) (ht : ty < 2) (hn : n < 2 ^ 31) {K : tb_heap → Prop} (hK : ∀ h', tb_isA h' b ty n F → (∀ q, q ≠ b → h' q = h q) → K h') : tb_wF (tb_cp h a (nI 0) b (nI 0) (nI n)) K := by
  obtain ⟨f, hf, hf2⟩ := hA
  obtain ⟨g, hg, hg2⟩ := hB
  have e : tb_cp h a (nI 0) b (nI 0) (nI n) = some (tb_up h b (.inr (.inl (ty, n, va_cpy f g 0 0 n)))) := by
    unfold tb_cp
    rw [hf, hg]
    have h0 : (nI 0).toNatClampNeg = 0 := nI_clamp (by decide)
    have h1 : (nI n).toNatClampNeg = n := nI_clamp hn
    have h2 : ¬ nI 0 < 0 := by decide
    have h3 : ¬ nI n < 0 := by rw [e_lt0 hn]; exact id
    dsimp only
    rw [h0, h1, if_pos ⟨rfl, ht, h2, h2, h3, by omega, by omega⟩]
  rw [e]
  show K _
  refine hK _ ⟨_, by unfold tb_up; rw [if_pos rfl], fun j hj => ?_⟩ (fun q hq => by unfold tb_up; rw [if_neg hq])
  rw [← hf2 j hj]
  simp [va_cpy, hj]
section C3
variable {E : tb_env} {d : Nat} {h : tb_heap} {nx : Nat} {Q : Option Value → tb_heap → Nat → Prop} {b a i : Nat} {s mv : Nat → Nat}
theorem c_stopMoving {c : Nat} (hB : tb_Bq h b s mv i) (hc : c < 8) (hd : 1 ≤ d) (hQ : ∀ h', tb_Bq h' b s (fun j => if 4 * c ≤ j ∧ j < 4 * c + 4 then 0 else mv j) i → (∀ q, q ≠ b + 2 → h' q = h q) → Q none h' nx) :
    tb_wp E d 10 0 [.ref b, .int (nI c), .long 0] [] h nx 0 0 Q := by
  have g0 := hB.1.g
  simp (disch := first | assumption | omega | exact tb_sm0 | exact tb_sm1 _ | exact tb_sm2 _ _ | exact tb_sm3 _ _ _ | exact tb_sm4 _ _ _ _ | exact Or.inl rfl | exact Or.inr rfl | fail) only [r10_0, r10_1, r10_2, r10_3, r10_4, r10_7, r10_8, r10_11, r10_12, r10_13, r10_16, r10_17, r10_18, r10_21, r10_24, g0, c_indexOf, tb_vl_some, tb_vl_none, tb_wF_some, nI_add, pk_mul, e_sub, e_div, tb_nmod, e_dec, e_le, e_lt, e_eq, e_eq0, e_lt0, e_0le, e_0lt, e_le0, if_true, if_false, not_true_eq_false, not_false_eq_true, ite_true, ite_false, Nat.reduceAdd, Nat.reduceMul, Nat.reduceLeDiff, Nat.reduceLT, Nat.reduceEqDiff, Nat.reduceSub, ↓reduceIte, Nat.reduceDiv, Nat.reduceMod]
  refine hB.stM (by omega) (fun h1 hB1 hF1 => ?_)
  have g1 := hB1.1.g
  simp (disch := first | assumption | omega | exact tb_sm0 | exact tb_sm1 _ | exact tb_sm2 _ _ | exact tb_sm3 _ _ _ | exact tb_sm4 _ _ _ _ | exact Or.inl rfl | exact Or.inr rfl | fail) only [r10_0, r10_1, r10_2, r10_3, r10_4, r10_7, r10_8, r10_11, r10_12, r10_13, r10_16, r10_17, r10_18, r10_21, r10_24, g1, c_indexOf, tb_vl_some, tb_vl_none, tb_wF_some, nI_add, pk_mul, e_sub, e_div, tb_nmod, e_dec, e_le, e_lt, e_eq, e_eq0, e_lt0, e_0le, e_0lt, e_le0, if_true, if_false, not_true_eq_false, not_false_eq_true, ite_true, ite_false, Nat.reduceAdd, Nat.reduceMul, Nat.reduceLeDiff, Nat.reduceLT, Nat.reduceEqDiff, Nat.reduceSub, ↓reduceIte, Nat.reduceDiv, Nat.reduceMod]
  refine hB1.stM (by omega) (fun h2 hB2 hF2 => ?_)
  have g2 := hB2.1.g
  simp (disch := first | assumption | omega | exact tb_sm0 | exact tb_sm1 _ | exact tb_sm2 _ _ | exact tb_sm3 _ _ _ | exact tb_sm4 _ _ _ _ | exact Or.inl rfl | exact Or.inr rfl | fail) only [r10_0, r10_1, r10_2, r10_3, r10_4, r10_7, r10_8, r10_11, r10_12, r10_13, r10_16, r10_17, r10_18, r10_21, r10_24, g2, c_indexOf, tb_vl_some, tb_vl_none, tb_wF_some, nI_add, pk_mul, e_sub, e_div, tb_nmod, e_dec, e_le, e_lt, e_eq, e_eq0, e_lt0, e_0le, e_0lt, e_le0, if_true, if_false, not_true_eq_false, not_false_eq_true, ite_true, ite_false, Nat.reduceAdd, Nat.reduceMul, Nat.reduceLeDiff, Nat.reduceLT, Nat.reduceEqDiff, Nat.reduceSub, ↓reduceIte, Nat.reduceDiv, Nat.reduceMod]
  refine hB2.stM (by omega) (fun h3 hB3 hF3 => ?_)
  have g3 := hB3.1.g
  simp (disch := first | assumption | omega | exact tb_sm0 | exact tb_sm1 _ | exact tb_sm2 _ _ | exact tb_sm3 _ _ _ | exact tb_sm4 _ _ _ _ | exact Or.inl rfl | exact Or.inr rfl | fail) only [r10_0, r10_1, r10_2, r10_3, r10_4, r10_7, r10_8, r10_11, r10_12, r10_13, r10_16, r10_17, r10_18, r10_21, r10_24, g3, c_indexOf, tb_vl_some, tb_vl_none, tb_wF_some, nI_add, pk_mul, e_sub, e_div, tb_nmod, e_dec, e_le, e_lt, e_eq, e_eq0, e_lt0, e_0le, e_0lt, e_le0, if_true, if_false, not_true_eq_false, not_false_eq_true, ite_true, ite_false, Nat.reduceAdd, Nat.reduceMul, Nat.reduceLeDiff, Nat.reduceLT, Nat.reduceEqDiff, Nat.reduceSub, ↓reduceIte, Nat.reduceDiv, Nat.reduceMod]
  refine hB3.stM (by omega) (fun h4 hB4 hF4 => ?_)
  try simp (disch := first | assumption | omega | exact tb_sm0 | exact tb_sm1 _ | exact tb_sm2 _ _ | exact tb_sm3 _ _ _ | exact tb_sm4 _ _ _ _ | exact Or.inl rfl | exact Or.inr rfl | fail) only [r10_0, r10_1, r10_2, r10_3, r10_4, r10_7, r10_8, r10_11, r10_12, r10_13, r10_16, r10_17, r10_18, r10_21, r10_24, nI_add, pk_mul, e_sub, e_div, tb_nmod, e_dec, e_le, e_lt, e_eq, e_eq0, e_lt0, e_0le, e_0lt, e_le0, if_true, if_false, not_true_eq_false, not_false_eq_true, ite_true, ite_false, Nat.reduceAdd, Nat.reduceMul, Nat.reduceLeDiff, Nat.reduceLT, Nat.reduceEqDiff, Nat.reduceSub, ↓reduceIte, Nat.reduceDiv, Nat.reduceMod]
  refine hQ h4 (hB4.to rfl rfl rfl (fun _ _ => rfl) (fun _ _ => rfl) (fun j hj => ?_)) (fun q hq => by rw [hF4 q hq, hF3 q hq, hF2 q hq, hF1 q hq])
  unfold va_up
  by_cases q : 4 * c ≤ j ∧ j < 4 * c + 4
  · rw [if_pos q]
    split
    · rfl
    · split
      · rfl
      · split
        · rfl
        · rw [if_pos (by omega)]
  · rw [if_neg q, if_neg (by omega), if_neg (by omega), if_neg (by omega), if_neg (by omega)]
theorem sp_g_pos {s : Nat → Nat} {i c k : Nat} (hw : sp_why s i c k = 0) : 0 < sp_g s i c k := by
  unfold sp_why at hw
  unfold sp_g
  by_cases c1 : s (48 + 32 * i + 4 * c + k) = 0
  · rw [if_pos c1] at hw; cases hw
  · rw [if_neg c1] at hw
    by_cases c2 : s (13 + i) < sp_need s i c k
    · rw [if_pos c2] at hw; cases hw
    · rw [if_neg c2] at hw
      by_cases c3 : sp_room s i c = 0
      · rw [if_pos c3] at hw; cases hw
      · split <;> omega
theorem sp_u_lt {s : Nat → Nat} (hI : sp_I s) {i c k : Nat} (hw : sp_why s i c k = 0) : sp_g s i c k / s 3 < sp_g s i c k := Nat.div_lt_self (sp_g_pos hw) (by have := hI.2.1; omega)
theorem c_slideHeap {c k : Nat} (hB : tb_Bq h b s mv i) (hR : tb_Ru h a s) (hI : sp_I s) (hi : i < 5) (hc : c < 8) (hk : k < 4) (hw : sp_why s i c k = 0) (hab : a + 4 ≤ b ∨ b + 4 ≤ a) (hd : 2 ≤ d) (hQ : ∀ h', tb_Bq h' b (sp_sl s i c k) (if c = 7 then mv else va_up mv (4 * c + 4 + k) 1) i → (∀ q, q < b ∨ b + 4 ≤ q → h' q = h q) → Q none h' nx) :
    tb_wp E d 9 0 [.ref b, .int (nI c), .int (nI k), .ref a, .long 0, .long 0, .long 0, .long 0, .long 0] [] h nx 0 0 Q := by
  have g0 := hB.1.g
  have hO := hB.1.O
  have hOR := hR.O
  have e : 48 + 32 * i + (c * 4 + k) = 48 + 32 * i + 4 * c + k := by omega
  have hh := sp_heap_le hI hi hc hk
  have hr := sp_room_le s i c
  have hgl := sp_g_le s i c k
  have hu := sp_u_lt hI hw
  have rm := fun {Q'} => c_roomBelow (E := E) (d := d - 1) (nx := nx) (Q := Q') hB hI hi hc (show 1 ≤ d - 1 by omega)
  have hmin : ∀ (y : Int32), (tb_wp E d 9 22 [.ref b, .int (nI c), .int (nI k), .ref a, .int (nI (c * 4 + k)), .long 0, .long 0, .long 0, .long 0] [.int (nI (sp_g s i c k))] h nx 0 0 Q) := by
    intro y
    have du := fun {Q'} => c_dustOf (E := E) (d := d - 1) (nx := nx) (h := h) (Q := Q') hR hI (show sp_g s i c k < 2 ^ 31 by omega)
    unfold sp_sl at hQ
    dsimp only at hQ
    generalize sp_g s i c k = G at *
    generalize G / s 3 = U at *
    simp (disch := first | assumption | omega | exact tb_sm0 | exact tb_sm1 _ | exact tb_sm2 _ _ | exact tb_sm3 _ _ _ | exact tb_sm4 _ _ _ _ | exact Or.inl rfl | exact Or.inr rfl | fail) only [r9_0, r9_1, r9_2, r9_5, r9_7, r9_8, r9_11, r9_13, r9_14, r9_15, r9_16, r9_19, r9_22, r9_24, r9_25, r9_27, r9_30, r9_32, r9_34, r9_36, r9_37, r9_39, r9_40, r9_43, r9_45, r9_46, r9_47, r9_49, r9_50, r9_51, r9_52i, r9_52, r9_53, r9_56, r9_58, r9_59, r9_62, r9_63, r9_65, r9_68, r9_69, r9_72, r9_73, r9_74, r9_75, r9_77, r9_78, r9_79, r9_80i, r9_80, r9_81, r9_84, r9_86, r9_87, r9_90, r9_91, r9_92, r9_93, r9_94, r9_95, r9_98, r9_100, r9_101, r9_104, r9_106, r9_107, r9_108, r9_110, r9_111, r9_112, r9_114, r9_117, r9_118, r9_121, r9_123, r9_124, r9_125, g0, hB.H, e, du, tb_vl_some, tb_vl_none, tb_wF_some, nI_add, pk_mul, e_sub, e_div, tb_nmod, e_dec, e_le, e_lt, e_eq, e_eq0, e_lt0, e_0le, e_0lt, e_le0, if_true, if_false, not_true_eq_false, not_false_eq_true, ite_true, ite_false, Nat.reduceAdd, Nat.reduceMul, Nat.reduceLeDiff, Nat.reduceLT, Nat.reduceEqDiff, Nat.reduceSub, ↓reduceIte, Nat.reduceDiv, Nat.reduceMod]
    refine hB.stH hi (by omega) (fun h1 hB1 hF1 => ?_)
    rw [e] at hB1
    have g1 := hB1.1.g
    rw [va_up_n (show 23 + i ≠ 48 + 32 * i + 4 * c + k by omega)] at g1
    simp (disch := first | assumption | omega | exact tb_sm0 | exact tb_sm1 _ | exact tb_sm2 _ _ | exact tb_sm3 _ _ _ | exact tb_sm4 _ _ _ _ | exact Or.inl rfl | exact Or.inr rfl | fail) only [r9_0, r9_1, r9_2, r9_5, r9_7, r9_8, r9_11, r9_13, r9_14, r9_15, r9_16, r9_19, r9_22, r9_24, r9_25, r9_27, r9_30, r9_32, r9_34, r9_36, r9_37, r9_39, r9_40, r9_43, r9_45, r9_46, r9_47, r9_49, r9_50, r9_51, r9_52i, r9_52, r9_53, r9_56, r9_58, r9_59, r9_62, r9_63, r9_65, r9_68, r9_69, r9_72, r9_73, r9_74, r9_75, r9_77, r9_78, r9_79, r9_80i, r9_80, r9_81, r9_84, r9_86, r9_87, r9_90, r9_91, r9_92, r9_93, r9_94, r9_95, r9_98, r9_100, r9_101, r9_104, r9_106, r9_107, r9_108, r9_110, r9_111, r9_112, r9_114, r9_117, r9_118, r9_121, r9_123, r9_124, r9_125, g1, tb_vl_some, tb_vl_none, tb_wF_some, nI_add, pk_mul, e_sub, e_div, tb_nmod, e_dec, e_le, e_lt, e_eq, e_eq0, e_lt0, e_0le, e_0lt, e_le0, if_true, if_false, not_true_eq_false, not_false_eq_true, ite_true, ite_false, Nat.reduceAdd, Nat.reduceMul, Nat.reduceLeDiff, Nat.reduceLT, Nat.reduceEqDiff, Nat.reduceSub, ↓reduceIte, Nat.reduceDiv, Nat.reduceMod]
    refine hB1.pf hi (Or.inr (Or.inr ⟨rfl, rfl⟩)) (fun h2 hB2 hF2 => ?_)
    have g2 := hB2.1.g
    have q23 : va_up s (48 + 32 * i + 4 * c + k) (s (48 + 32 * i + 4 * c + k) - G) (23 + i) = s (23 + i) := va_up_n (by omega)
    rw [q23] at hQ
    by_cases c7 : c = 7
    · subst c7
      rw [if_pos rfl, if_pos rfl] at hQ
      simp (disch := first | assumption | omega | exact tb_sm0 | exact tb_sm1 _ | exact tb_sm2 _ _ | exact tb_sm3 _ _ _ | exact tb_sm4 _ _ _ _ | exact Or.inl rfl | exact Or.inr rfl | fail) only [r9_0, r9_1, r9_2, r9_5, r9_7, r9_8, r9_11, r9_13, r9_14, r9_15, r9_16, r9_19, r9_22, r9_24, r9_25, r9_27, r9_30, r9_32, r9_34, r9_36, r9_37, r9_39, r9_40, r9_43, r9_45, r9_46, r9_47, r9_49, r9_50, r9_51, r9_52i, r9_52, r9_53, r9_56, r9_58, r9_59, r9_62, r9_63, r9_65, r9_68, r9_69, r9_72, r9_73, r9_74, r9_75, r9_77, r9_78, r9_79, r9_80i, r9_80, r9_81, r9_84, r9_86, r9_87, r9_90, r9_91, r9_92, r9_93, r9_94, r9_95, r9_98, r9_100, r9_101, r9_104, r9_106, r9_107, r9_108, r9_110, r9_111, r9_112, r9_114, r9_117, r9_118, r9_121, r9_123, r9_124, r9_125, g2, hB2.P, tb_vl_some, tb_vl_none, tb_wF_some, nI_add, pk_mul, e_sub, e_div, tb_nmod, e_dec, e_le, e_lt, e_eq, e_eq0, e_lt0, e_0le, e_0lt, e_le0, if_true, if_false, not_true_eq_false, not_false_eq_true, ite_true, ite_false, Nat.reduceAdd, Nat.reduceMul, Nat.reduceLeDiff, Nat.reduceLT, Nat.reduceEqDiff, Nat.reduceSub, ↓reduceIte, Nat.reduceDiv, Nat.reduceMod]
      refine hB2.stP hi hk (fun h3 hB3 hF3 => ?_)
      have g3 := hB3.1.g
      simp (disch := first | assumption | omega | exact tb_sm0 | exact tb_sm1 _ | exact tb_sm2 _ _ | exact tb_sm3 _ _ _ | exact tb_sm4 _ _ _ _ | exact Or.inl rfl | exact Or.inr rfl | fail) only [r9_0, r9_1, r9_2, r9_5, r9_7, r9_8, r9_11, r9_13, r9_14, r9_15, r9_16, r9_19, r9_22, r9_24, r9_25, r9_27, r9_30, r9_32, r9_34, r9_36, r9_37, r9_39, r9_40, r9_43, r9_45, r9_46, r9_47, r9_49, r9_50, r9_51, r9_52i, r9_52, r9_53, r9_56, r9_58, r9_59, r9_62, r9_63, r9_65, r9_68, r9_69, r9_72, r9_73, r9_74, r9_75, r9_77, r9_78, r9_79, r9_80i, r9_80, r9_81, r9_84, r9_86, r9_87, r9_90, r9_91, r9_92, r9_93, r9_94, r9_95, r9_98, r9_100, r9_101, r9_104, r9_106, r9_107, r9_108, r9_110, r9_111, r9_112, r9_114, r9_117, r9_118, r9_121, r9_123, r9_124, r9_125, g3, tb_vl_some, tb_vl_none, tb_wF_some, nI_add, pk_mul, e_sub, e_div, tb_nmod, e_dec, e_le, e_lt, e_eq, e_eq0, e_lt0, e_0le, e_0lt, e_le0, if_true, if_false, not_true_eq_false, not_false_eq_true, ite_true, ite_false, Nat.reduceAdd, Nat.reduceMul, Nat.reduceLeDiff, Nat.reduceLT, Nat.reduceEqDiff, Nat.reduceSub, ↓reduceIte, Nat.reduceDiv, Nat.reduceMod]
      refine hB3.pf hi (Or.inr (Or.inl ⟨rfl, rfl⟩)) (fun h4 hB4 hF4 => ?_)
      try simp (disch := first | assumption | omega | exact tb_sm0 | exact tb_sm1 _ | exact tb_sm2 _ _ | exact tb_sm3 _ _ _ | exact tb_sm4 _ _ _ _ | exact Or.inl rfl | exact Or.inr rfl | fail) only [r9_0, r9_1, r9_2, r9_5, r9_7, r9_8, r9_11, r9_13, r9_14, r9_15, r9_16, r9_19, r9_22, r9_24, r9_25, r9_27, r9_30, r9_32, r9_34, r9_36, r9_37, r9_39, r9_40, r9_43, r9_45, r9_46, r9_47, r9_49, r9_50, r9_51, r9_52i, r9_52, r9_53, r9_56, r9_58, r9_59, r9_62, r9_63, r9_65, r9_68, r9_69, r9_72, r9_73, r9_74, r9_75, r9_77, r9_78, r9_79, r9_80i, r9_80, r9_81, r9_84, r9_86, r9_87, r9_90, r9_91, r9_92, r9_93, r9_94, r9_95, r9_98, r9_100, r9_101, r9_104, r9_106, r9_107, r9_108, r9_110, r9_111, r9_112, r9_114, r9_117, r9_118, r9_121, r9_123, r9_124, r9_125]
      exact hQ h4 hB4 (fun q hq => by rw [hF4 q (by omega), hF3 q (by omega), hF2 q (by omega), hF1 q (by omega)])
    · rw [if_neg c7, if_neg c7] at hQ
      have hc7 : c < 7 := by omega
      have e2 : 48 + 32 * i + ((c + 1) * 4 + k) = 48 + 32 * i + 4 * (c + 1) + k := by omega
      have e3 : (c + 1) * 4 + k = 4 * c + 4 + k := by omega
      have hcom : ¬ G - U = 0 := by omega
      simp (disch := first | assumption | omega | exact tb_sm0 | exact tb_sm1 _ | exact tb_sm2 _ _ | exact tb_sm3 _ _ _ | exact tb_sm4 _ _ _ _ | exact Or.inl rfl | exact Or.inr rfl | fail) only [r9_0, r9_1, r9_2, r9_5, r9_7, r9_8, r9_11, r9_13, r9_14, r9_15, r9_16, r9_19, r9_22, r9_24, r9_25, r9_27, r9_30, r9_32, r9_34, r9_36, r9_37, r9_39, r9_40, r9_43, r9_45, r9_46, r9_47, r9_49, r9_50, r9_51, r9_52i, r9_52, r9_53, r9_56, r9_58, r9_59, r9_62, r9_63, r9_65, r9_68, r9_69, r9_72, r9_73, r9_74, r9_75, r9_77, r9_78, r9_79, r9_80i, r9_80, r9_81, r9_84, r9_86, r9_87, r9_90, r9_91, r9_92, r9_93, r9_94, r9_95, r9_98, r9_100, r9_101, r9_104, r9_106, r9_107, r9_108, r9_110, r9_111, r9_112, r9_114, r9_117, r9_118, r9_121, r9_123, r9_124, r9_125, g2, hB2.H, c_indexOf, hc7, e2, tb_vl_some, tb_vl_none, tb_wF_some, nI_add, pk_mul, e_sub, e_div, tb_nmod, e_dec, e_le, e_lt, e_eq, e_eq0, e_lt0, e_0le, e_0lt, e_le0, if_true, if_false, not_true_eq_false, not_false_eq_true, ite_true, ite_false, Nat.reduceAdd, Nat.reduceMul, Nat.reduceLeDiff, Nat.reduceLT, Nat.reduceEqDiff, Nat.reduceSub, ↓reduceIte, Nat.reduceDiv, Nat.reduceMod]
      refine hB2.stH hi (by omega) (fun h3 hB3 hF3 => ?_)
      rw [e2] at hB3
      have g3 := hB3.1.g
      simp (disch := first | assumption | omega | exact tb_sm0 | exact tb_sm1 _ | exact tb_sm2 _ _ | exact tb_sm3 _ _ _ | exact tb_sm4 _ _ _ _ | exact Or.inl rfl | exact Or.inr rfl | fail) only [r9_0, r9_1, r9_2, r9_5, r9_7, r9_8, r9_11, r9_13, r9_14, r9_15, r9_16, r9_19, r9_22, r9_24, r9_25, r9_27, r9_30, r9_32, r9_34, r9_36, r9_37, r9_39, r9_40, r9_43, r9_45, r9_46, r9_47, r9_49, r9_50, r9_51, r9_52i, r9_52, r9_53, r9_56, r9_58, r9_59, r9_62, r9_63, r9_65, r9_68, r9_69, r9_72, r9_73, r9_74, r9_75, r9_77, r9_78, r9_79, r9_80i, r9_80, r9_81, r9_84, r9_86, r9_87, r9_90, r9_91, r9_92, r9_93, r9_94, r9_95, r9_98, r9_100, r9_101, r9_104, r9_106, r9_107, r9_108, r9_110, r9_111, r9_112, r9_114, r9_117, r9_118, r9_121, r9_123, r9_124, r9_125, g3, hcom, tb_vl_some, tb_vl_none, tb_wF_some, nI_add, pk_mul, e_sub, e_div, tb_nmod, e_dec, e_le, e_lt, e_eq, e_eq0, e_lt0, e_0le, e_0lt, e_le0, if_true, if_false, not_true_eq_false, not_false_eq_true, ite_true, ite_false, Nat.reduceAdd, Nat.reduceMul, Nat.reduceLeDiff, Nat.reduceLT, Nat.reduceEqDiff, Nat.reduceSub, ↓reduceIte, Nat.reduceDiv, Nat.reduceMod]
      refine hB3.stM (by omega) (fun h4 hB4 hF4 => ?_)
      try simp (disch := first | assumption | omega | exact tb_sm0 | exact tb_sm1 _ | exact tb_sm2 _ _ | exact tb_sm3 _ _ _ | exact tb_sm4 _ _ _ _ | exact Or.inl rfl | exact Or.inr rfl | fail) only [r9_0, r9_1, r9_2, r9_5, r9_7, r9_8, r9_11, r9_13, r9_14, r9_15, r9_16, r9_19, r9_22, r9_24, r9_25, r9_27, r9_30, r9_32, r9_34, r9_36, r9_37, r9_39, r9_40, r9_43, r9_45, r9_46, r9_47, r9_49, r9_50, r9_51, r9_52i, r9_52, r9_53, r9_56, r9_58, r9_59, r9_62, r9_63, r9_65, r9_68, r9_69, r9_72, r9_73, r9_74, r9_75, r9_77, r9_78, r9_79, r9_80i, r9_80, r9_81, r9_84, r9_86, r9_87, r9_90, r9_91, r9_92, r9_93, r9_94, r9_95, r9_98, r9_100, r9_101, r9_104, r9_106, r9_107, r9_108, r9_110, r9_111, r9_112, r9_114, r9_117, r9_118, r9_121, r9_123, r9_124, r9_125]
      rw [e3] at hB4
      exact hQ h4 hB4 (fun q hq => by rw [hF4 q (by omega), hF3 q (by omega), hF2 q (by omega), hF1 q (by omega)])
  have hm := hmin 0
  unfold sp_g at hm
  by_cases c1 : s (48 + 32 * i + 4 * c + k) < sp_room s i c
  · rw [if_pos c1] at hm
    have c1' : ¬ sp_room s i c < s (48 + 32 * i + 4 * c + k) := by omega
    simp (disch := first | assumption | omega | exact tb_sm0 | exact tb_sm1 _ | exact tb_sm2 _ _ | exact tb_sm3 _ _ _ | exact tb_sm4 _ _ _ _ | exact Or.inl rfl | exact Or.inr rfl | fail) only [r9_0, r9_1, r9_2, r9_5, r9_7, r9_8, r9_11, r9_13, r9_14, r9_15, r9_16, r9_19, r9_24, r9_25, r9_27, r9_30, r9_32, r9_34, r9_36, r9_37, r9_39, r9_40, r9_43, r9_45, r9_46, r9_47, r9_49, r9_50, r9_51, r9_52i, r9_52, r9_53, r9_56, r9_58, r9_59, r9_62, r9_63, r9_65, r9_68, r9_69, r9_72, r9_73, r9_74, r9_75, r9_77, r9_78, r9_79, r9_80i, r9_80, r9_81, r9_84, r9_86, r9_87, r9_90, r9_91, r9_92, r9_93, r9_94, r9_95, r9_98, r9_100, r9_101, r9_104, r9_106, r9_107, r9_108, r9_110, r9_111, r9_112, r9_114, r9_117, r9_118, r9_121, r9_123, r9_124, r9_125, g0, hB.H, c_indexOf, rm, e, c1', tb_vl_some, tb_vl_none, tb_wF_some, nI_add, pk_mul, e_sub, e_div, tb_nmod, e_dec, e_le, e_lt, e_eq, e_eq0, e_lt0, e_0le, e_0lt, e_le0, if_true, if_false, not_true_eq_false, not_false_eq_true, ite_true, ite_false, Nat.reduceAdd, Nat.reduceMul, Nat.reduceLeDiff, Nat.reduceLT, Nat.reduceEqDiff, Nat.reduceSub, ↓reduceIte, Nat.reduceDiv, Nat.reduceMod]
    exact hm
  · rw [if_neg c1] at hm
    by_cases c2 : sp_room s i c < s (48 + 32 * i + 4 * c + k)
    · simp (disch := first | assumption | omega | exact tb_sm0 | exact tb_sm1 _ | exact tb_sm2 _ _ | exact tb_sm3 _ _ _ | exact tb_sm4 _ _ _ _ | exact Or.inl rfl | exact Or.inr rfl | fail) only [r9_0, r9_1, r9_2, r9_5, r9_7, r9_8, r9_11, r9_13, r9_14, r9_15, r9_16, r9_19, r9_24, r9_25, r9_27, r9_30, r9_32, r9_34, r9_36, r9_37, r9_39, r9_40, r9_43, r9_45, r9_46, r9_47, r9_49, r9_50, r9_51, r9_52i, r9_52, r9_53, r9_56, r9_58, r9_59, r9_62, r9_63, r9_65, r9_68, r9_69, r9_72, r9_73, r9_74, r9_75, r9_77, r9_78, r9_79, r9_80i, r9_80, r9_81, r9_84, r9_86, r9_87, r9_90, r9_91, r9_92, r9_93, r9_94, r9_95, r9_98, r9_100, r9_101, r9_104, r9_106, r9_107, r9_108, r9_110, r9_111, r9_112, r9_114, r9_117, r9_118, r9_121, r9_123, r9_124, r9_125, g0, hB.H, c_indexOf, rm, e, c2, tb_vl_some, tb_vl_none, tb_wF_some, nI_add, pk_mul, e_sub, e_div, tb_nmod, e_dec, e_le, e_lt, e_eq, e_eq0, e_lt0, e_0le, e_0lt, e_le0, if_true, if_false, not_true_eq_false, not_false_eq_true, ite_true, ite_false, Nat.reduceAdd, Nat.reduceMul, Nat.reduceLeDiff, Nat.reduceLT, Nat.reduceEqDiff, Nat.reduceSub, ↓reduceIte, Nat.reduceDiv, Nat.reduceMod]
      exact hm
    · have c3 : s (48 + 32 * i + 4 * c + k) = sp_room s i c := by omega
      simp (disch := first | assumption | omega | exact tb_sm0 | exact tb_sm1 _ | exact tb_sm2 _ _ | exact tb_sm3 _ _ _ | exact tb_sm4 _ _ _ _ | exact Or.inl rfl | exact Or.inr rfl | fail) only [r9_0, r9_1, r9_2, r9_5, r9_7, r9_8, r9_11, r9_13, r9_14, r9_15, r9_16, r9_19, r9_24, r9_25, r9_27, r9_30, r9_32, r9_34, r9_36, r9_37, r9_39, r9_40, r9_43, r9_45, r9_46, r9_47, r9_49, r9_50, r9_51, r9_52i, r9_52, r9_53, r9_56, r9_58, r9_59, r9_62, r9_63, r9_65, r9_68, r9_69, r9_72, r9_73, r9_74, r9_75, r9_77, r9_78, r9_79, r9_80i, r9_80, r9_81, r9_84, r9_86, r9_87, r9_90, r9_91, r9_92, r9_93, r9_94, r9_95, r9_98, r9_100, r9_101, r9_104, r9_106, r9_107, r9_108, r9_110, r9_111, r9_112, r9_114, r9_117, r9_118, r9_121, r9_123, r9_124, r9_125, g0, hB.H, c_indexOf, rm, e, c2, tb_vl_some, tb_vl_none, tb_wF_some, nI_add, pk_mul, e_sub, e_div, tb_nmod, e_dec, e_le, e_lt, e_eq, e_eq0, e_lt0, e_0le, e_0lt, e_le0, if_true, if_false, not_true_eq_false, not_false_eq_true, ite_true, ite_false, Nat.reduceAdd, Nat.reduceMul, Nat.reduceLeDiff, Nat.reduceLT, Nat.reduceEqDiff, Nat.reduceSub, ↓reduceIte, Nat.reduceDiv, Nat.reduceMod]
      rw [c3]
      exact hm
/-- what a tick knows at a slot -/
def sl_inv (s0 : Nat → Nat) (i : Nat) (q : (Nat → Nat) × (Nat → Nat)) (any c t : Nat) : Prop :=
  (any = 0 ∧ q = (s0, fun _ => 0) ∧ ∀ c' t', (c < c' ∨ (c' = c ∧ t' < t)) → c' < 8 → t' < 4 → ¬ sp_why s0 i c' (sp_kd s0 t') = 0) ∨ (any = 1 ∧ ∃ c' k, c' < 8 ∧ k < 4 ∧ sp_why s0 i c' k = 0)
theorem sl_inv_y {s0 : Nat → Nat} {i any c t : Nat} {q : (Nat → Nat) × (Nat → Nat)} (hS : sl_inv s0 i q any c t) (hc : c < 8) (ht : t < 4) (hw : sp_why q.1 i c (sp_kd q.1 t) = 0) : sl_inv s0 i (sp_slot q i c t) 1 c (t + 1) := by
  refine Or.inr ⟨rfl, ?_⟩
  rcases hS with ⟨_, h2, _⟩ | ⟨_, h2⟩
  · rw [h2] at hw; exact ⟨c, _, hc, (sp_kd_ok s0 ht).1, hw⟩
  · exact h2
theorem sl_inv_n {s0 : Nat → Nat} {i any c t : Nat} {q : (Nat → Nat) × (Nat → Nat)} (hS : sl_inv s0 i q any c t) (hw : ¬ sp_why q.1 i c (sp_kd q.1 t) = 0) : sl_inv s0 i (sp_slot q i c t) any c (t + 1) := by
  have e : sp_slot q i c t = q := by unfold sp_slot; rw [if_neg hw]
  rw [e]
  rcases hS with ⟨h1, h2, h3⟩ | h2
  · refine Or.inl ⟨h1, h2, fun c' t' q1 q2 q3 => ?_⟩
    by_cases ec : c' = c ∧ t' = t
    · obtain ⟨rfl, rfl⟩ := ec
      rw [h2] at hw
      exact hw
    · exact h3 c' t' (by omega) q2 q3
  · exact Or.inr h2
/-- the marks on the way -/
def sl_mk (s0 cm : Nat → Nat) (i c : Nat) : Nat → Nat := fun j => if j < 4 * (c + 1) then s0 (208 + 32 * i + j) else cm j
theorem sp_sl_lo {s : Nat → Nat} {i c k j : Nat} (hi : i < 5) (hc : c < 8) (hk : k < 4) (hj : j < 18 ∨ 208 ≤ j) : sp_sl s i c k j = s j := sp_sl_n (by omega) (by omega) (fun _ => by omega) (fun _ => by omega)
theorem sp_slot_lo {q : (Nat → Nat) × (Nat → Nat)} {i c t j : Nat} (hi : i < 5) (hc : c < 8) (ht : t < 4) (hj : j < 18 ∨ 208 ≤ j) : (sp_slot q i c t).1 j = q.1 j := by
  unfold sp_slot
  split
  · exact sp_sl_lo hi hc (sp_kd_ok q.1 ht).1 hj
  · rfl
theorem sp_slot_cm {q : (Nat → Nat) × (Nat → Nat)} {i c t j : Nat} (hj : j < 4 * (c + 1)) : (sp_slot q i c t).2 j = q.2 j := by
  unfold sp_slot
  split
  · dsimp only
    unfold sp_cm
    split
    · rfl
    · rw [va_up_n (by omega)]
  · rfl
theorem c_slot {s0 : Nat → Nat} {q : (Nat → Nat) × (Nat → Nat)} {any c t : Nat} {y : Value} (hB : tb_Bq h b q.1 (sl_mk s0 q.2 i c) i) (hR : tb_Ru h a q.1) (hI : sp_I q.1) (hlo : ∀ j, 208 ≤ j → q.1 j = s0 j) (hS : sl_inv s0 i q any c t) (hi : i < 5) (hc : c < 8) (ht : t < 4) (hab : a + 4 ≤ b ∨ b + 4 ≤ a) (hd : 3 ≤ d) (hQ : ∀ h' any' y', tb_Bq h' b (sp_slot q i c t).1 (sl_mk s0 (sp_slot q i c t).2 i c) i → tb_Ru h' a (sp_slot q i c t).1 → sl_inv s0 i (sp_slot q i c t) any' c (t + 1) → (∀ q, q < b ∨ b + 4 ≤ q → h' q = h q) → tb_wp E d 8 12 [.ref b, .ref a, .int (nI any'), .int (nI c), .int (nI (t + 1)), y'] [] h' nx 0 0 Q) :
    tb_wp E d 8 12 [.ref b, .ref a, .int (nI any), .int (nI c), .int (nI t), y] [] h nx 0 0 Q := by
  have hO := hB.1.O
  have hOR := hR.O
  have gr := hR.g
  have hk := (sp_kd_ok q.1 ht).1
  have ht4 : ¬ 4 ≤ t := by omega
  have hm : sl_mk s0 q.2 i c (c * 4 + sp_kd q.1 t) = q.1 (208 + 32 * i + 4 * c + sp_kd q.1 t) := by
    unfold sl_mk
    rw [if_pos (by omega), hlo _ (by omega)]
    congr 1; omega
  have wy := fun {Q'} => c_why (E := E) (d := d - 1) (nx := nx) (Q := Q') hB hR hI hi hc hk hm (show 2 ≤ d - 1 by omega)
  have wl := sp_why_le q.1 i c (sp_kd q.1 t)
  simp (disch := first | assumption | omega | exact tb_sm0 | exact tb_sm1 _ | exact tb_sm2 _ _ | exact tb_sm3 _ _ _ | exact tb_sm4 _ _ _ _ | exact Or.inl rfl | exact Or.inr rfl | fail) only [r8_12, r8_14, r8_15, ht4, nI_add, pk_mul, e_sub, e_div, tb_nmod, e_dec, e_le, e_lt, e_eq, e_eq0, e_lt0, e_0le, e_0lt, e_le0, if_true, if_false, not_true_eq_false, not_false_eq_true, ite_true, ite_false, Nat.reduceAdd, Nat.reduceMul, Nat.reduceLeDiff, Nat.reduceLT, Nat.reduceEqDiff, Nat.reduceSub, ↓reduceIte, Nat.reduceDiv, Nat.reduceMod]
  by_cases hw : sp_why q.1 i c (sp_kd q.1 t) = 0
  · simp (disch := first | assumption | omega | exact tb_sm0 | exact tb_sm1 _ | exact tb_sm2 _ _ | exact tb_sm3 _ _ _ | exact tb_sm4 _ _ _ _ | exact Or.inl rfl | exact Or.inr rfl | fail) only [r8_0, r8_1, r8_2, r8_4, r8_5, r8_6, r8_9, r8_10, r8_14, r8_15, r8_18, r8_19, r8_22, r8_24, r8_25, r8_27, r8_28, r8_29, r8_31, r8_32, r8_35, r8_38, r8_39, r8_40, r8_42, r8_43, r8_46, r8_47, r8_48, r8_51, r8_54, r8_55, r8_56, r8_59, r8_62, r8_65, r8_66, gr, hR.D, wy, hw, tb_vl_some, tb_vl_none, tb_wF_some, nI_add, pk_mul, e_sub, e_div, tb_nmod, e_dec, e_le, e_lt, e_eq, e_eq0, e_lt0, e_0le, e_0lt, e_le0, if_true, if_false, not_true_eq_false, not_false_eq_true, ite_true, ite_false, Nat.reduceAdd, Nat.reduceMul, Nat.reduceLeDiff, Nat.reduceLT, Nat.reduceEqDiff, Nat.reduceSub, ↓reduceIte, Nat.reduceDiv, Nat.reduceMod]
    have es : sp_slot q i c t = (sp_sl q.1 i c (sp_kd q.1 t), sp_cm q.1 q.2 i c (sp_kd q.1 t)) := by unfold sp_slot; rw [if_pos hw]
    refine c_slideHeap hB hR hI hi hc hk hw hab (by omega) (fun h2 hB2 hF2 => ?_)
    simp (disch := first | assumption | omega | exact tb_sm0 | exact tb_sm1 _ | exact tb_sm2 _ _ | exact tb_sm3 _ _ _ | exact tb_sm4 _ _ _ _ | exact Or.inl rfl | exact Or.inr rfl | fail) only [r8_0, r8_1, r8_2, r8_4, r8_5, r8_6, r8_9, r8_10, r8_14, r8_15, r8_18, r8_19, r8_22, r8_24, r8_25, r8_27, r8_28, r8_29, r8_31, r8_32, r8_35, r8_38, r8_39, r8_40, r8_42, r8_43, r8_46, r8_47, r8_48, r8_51, r8_54, r8_55, r8_56, r8_59, r8_62, r8_65, r8_66, tb_vl_some, tb_vl_none, tb_wF_some, nI_add, pk_mul, e_sub, e_div, tb_nmod, e_dec, e_le, e_lt, e_eq, e_eq0, e_lt0, e_0le, e_0lt, e_le0, if_true, if_false, not_true_eq_false, not_false_eq_true, ite_true, ite_false, Nat.reduceAdd, Nat.reduceMul, Nat.reduceLeDiff, Nat.reduceLT, Nat.reduceEqDiff, Nat.reduceSub, ↓reduceIte, Nat.reduceDiv, Nat.reduceMod]
    refine hQ h2 1 _ ?_ ?_ (sl_inv_y hS hc ht hw) hF2
    · rw [es]
      refine hB2.to rfl rfl rfl (fun _ _ => rfl) (fun _ _ => rfl) (fun j hj => ?_)
      have hu := sp_u_lt hI hw
      by_cases c7 : c = 7
      · rw [if_pos c7]
        unfold sl_mk
        rw [if_pos (by omega), if_pos (by omega)]
      · rw [if_neg c7]
        have ecm : sp_cm q.1 q.2 i c (sp_kd q.1 t) = va_up q.2 (4 * c + 4 + sp_kd q.1 t) 1 := by
          unfold sp_cm
          rw [if_neg c7, if_neg (by omega)]
        show va_up (sl_mk s0 q.2 i c) (4 * c + 4 + sp_kd q.1 t) 1 j = sl_mk s0 (sp_cm q.1 q.2 i c (sp_kd q.1 t)) i c j
        rw [ecm]
        by_cases ej : j = 4 * c + 4 + sp_kd q.1 t
        · rw [ej, va_up_s]
          unfold sl_mk
          rw [if_neg (by omega), va_up_s]
        · rw [va_up_n ej]
          unfold sl_mk
          rw [va_up_n ej]
    · exact (hR.fr (fun x h1 h2 => hF2 x (by omega))).to (fun j h1 h2 => (sp_slot_lo hi hc ht (by omega)).symm)
  · have es : sp_slot q i c t = q := by unfold sp_slot; rw [if_neg hw]
    simp (disch := first | assumption | omega | exact tb_sm0 | exact tb_sm1 _ | exact tb_sm2 _ _ | exact tb_sm3 _ _ _ | exact tb_sm4 _ _ _ _ | exact Or.inl rfl | exact Or.inr rfl | fail) only [r8_0, r8_1, r8_2, r8_4, r8_5, r8_6, r8_9, r8_10, r8_14, r8_15, r8_18, r8_19, r8_22, r8_24, r8_25, r8_27, r8_28, r8_29, r8_31, r8_32, r8_35, r8_38, r8_39, r8_40, r8_42, r8_43, r8_46, r8_47, r8_48, r8_51, r8_54, r8_55, r8_56, r8_59, r8_62, r8_65, r8_66, gr, hR.D, wy, hw, tb_vl_some, tb_vl_none, tb_wF_some, nI_add, pk_mul, e_sub, e_div, tb_nmod, e_dec, e_le, e_lt, e_eq, e_eq0, e_lt0, e_0le, e_0lt, e_le0, if_true, if_false, not_true_eq_false, not_false_eq_true, ite_true, ite_false, Nat.reduceAdd, Nat.reduceMul, Nat.reduceLeDiff, Nat.reduceLT, Nat.reduceEqDiff, Nat.reduceSub, ↓reduceIte, Nat.reduceDiv, Nat.reduceMod]
    refine hQ h any _ ?_ ?_ (sl_inv_n hS hw) (fun _ _ => rfl)
    · rw [es]; exact hB
    · rw [es]; exact hR
end C3
