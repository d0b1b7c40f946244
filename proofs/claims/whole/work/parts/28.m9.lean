/-! THE REFERENCE: what would be, history, texts -/
theorem sp_I_angle {s : Nat → Nat} (hI : sp_I s) {b a : Nat} (hb : b < 5) (ha : a ≤ 90) : sp_I (va_up s (13 + b) a) := by
  obtain ⟨i1, i2, i3, i4, i5⟩ := hI
  refine ⟨fun b' c' hb' hc' => ?_, ?_, fun j hj => ?_, fun j hj => ?_, fun j hj => ?_⟩
  · rw [sp_on_out (by omega)]; exact i1 b' c' hb' hc'
  · rw [va_up_n (by omega), va_up_n (by omega), va_up_n (by omega)]; exact i2
  · rw [va_up_n (by omega)]; exact i3 j hj
  · unfold va_up
    split
    · exact ha
    · exact i4 j hj
  · rw [va_up_n (by omega)]; exact i5 j hj
theorem tb_MG.upAs {h h' : tb_heap} {m : Nat} {s : Nat → Nat} {kn : Int32} {g : sp_G} {po wr sp : Int32} {as ah cm od as' : Nat → Int32} {bf : Nat → Nat} (h0 : tb_MG h m s kn g po wr sp as ah cm od bf) (hA : tb_isA h' (m + 2) 0 368 as') (hF : ∀ q, q ≠ m + 2 → h' q = h q) : tb_MG h' m s kn g po wr sp as' ah cm od bf := by
  obtain ⟨a1, a2, a3, a4, a5, a6, a7, a8, a9⟩ := h0
  exact ⟨(hF m (by omega)).trans a1, a2.to (hF _ (by omega)) (fun _ _ => rfl), hA, a4.to (hF _ (by omega)) (fun _ _ => rfl), a5.to (hF _ (by omega)) (fun _ _ => rfl), a6.to (hF _ (by omega)) (fun _ _ => rfl), a7.to (hF _ (by omega)) (fun _ _ => rfl), a8.to (hF _ (by omega)) (fun _ _ => rfl), a9.to (hF _ (by omega)) (fun _ _ => rfl)⟩
section M9
variable {E : tb_env} {d : Nat} {h : tb_heap} {nx : Nat} {Q : Option Value → tb_heap → Nat → Prop} {m : Nat} {s : Nat → Nat} {kn : Int32} {g : sp_G} {po wr sp : Int32} {as ah cm od : Nat → Int32} {bf : Nat → Nat}
theorem m_tilted {b a w : Nat} (hM : tb_MG h m s kn g po wr sp as ah cm od bf) (hI : sp_I s) (hb : b < 5) (ha : a ≤ 90) (hw : w ≤ 3) (hd : 6 ≤ d) (hQ : ∀ h' as' cm', tb_MG h' m s kn g po wr sp as' ah cm' od bf → tb_out h h' m (m + 9) → Q (some (.int (sp_til s b a w))) h' nx) :
    tb_wp E d 150 0 [.ref m, .int (nI b), .int (nI a), .int (nI w), .long 0, .long 0, .long 0, .long 0] [] h nx 0 0 Q := by
  have hO := hM.1.O
  simp (disch := first | assumption | omega | exact tb_sm0 | exact tb_sm1 _ | exact tb_sm2 _ _ | exact tb_sm3 _ _ _ | exact tb_sm4 _ _ _ _ | exact Or.inl rfl | exact Or.inr rfl | fail) only [r150_0, r150_1]
  refine m_putAside hM.1 hM.2.1 hM.2.2.1 (fun h2 hA2 hF2 => ?_)
  have hM2 := hM.upAs hA2 hF2
  have g2 := hM2.1.g
  have S2 := hM2.S
  simp (disch := first | assumption | omega | exact tb_sm0 | exact tb_sm1 _ | exact tb_sm2 _ _ | exact tb_sm3 _ _ _ | exact tb_sm4 _ _ _ _ | exact Or.inl rfl | exact Or.inr rfl | fail) only [r150_0, r150_1, r150_4, r150_5, r150_8, r150_10, r150_11, r150_12, r150_13, r150_15, r150_16, r150_19, r150_21, r150_22, r150_23, r150_24, r150_26, r150_27, r150_30, r150_32, r150_33, r150_34, r150_35, r150_36, r150_37, r150_38, r150_41, r150_44, r150_46, r150_47, r150_50, r150_52, r150_55, r150_56, r150_57, r150_60, r150_61, r150_64, r150_66, r150_67, r150_68, r150_69, r150_71, r150_72, r150_75, r150_76, r150_77, r150_80, r150_81, r150_84, r150_86, r150_87, r150_88, r150_89, r150_91, r150_92, r150_95, r150_96, r150_97, r150_100, r150_102, r150_103, r150_106, r150_108, g2, S2.ld, tb_vl_some, tb_vl_none, tb_wF_some, nI_add, pk_mul, e_sub, e_div, tb_nmod, e_dec, e_le, e_lt, e_eq, e_eq0, e_lt0, e_0le, e_0lt, e_le0, if_true, if_false, not_true_eq_false, not_false_eq_true, ite_true, ite_false, Nat.reduceAdd, Nat.reduceMul, Nat.reduceLeDiff, Nat.reduceLT, Nat.reduceEqDiff, Nat.reduceSub, ↓reduceIte, Nat.reduceDiv, Nat.reduceMod]
  refine S2.st (by omega) (fun h3 hS3 hF3 => ?_)
  have hM3 := hM2.upS hS3 (hM2.2.2.2.2.2.2.2.1.to (hF3 _ (by omega)) (fun _ _ => rfl)) (fun q q1 _ => hF3 q q1)
  have hO3 := hM3.1.O
  simp (disch := first | assumption | omega | exact tb_sm0 | exact tb_sm1 _ | exact tb_sm2 _ _ | exact tb_sm3 _ _ _ | exact tb_sm4 _ _ _ _ | exact Or.inl rfl | exact Or.inr rfl | fail) only [r150_0, r150_1, r150_4, r150_5, r150_8, r150_10, r150_11, r150_12, r150_13, r150_15, r150_16, r150_19, r150_21, r150_22, r150_23, r150_24, r150_26, r150_27, r150_30, r150_32, r150_33, r150_34, r150_35, r150_36, r150_37, r150_38, r150_41, r150_44, r150_46, r150_47, r150_50, r150_52, r150_55, r150_56, r150_57, r150_60, r150_61, r150_64, r150_66, r150_67, r150_68, r150_69, r150_71, r150_72, r150_75, r150_76, r150_77, r150_80, r150_81, r150_84, r150_86, r150_87, r150_88, r150_89, r150_91, r150_92, r150_95, r150_96, r150_97, r150_100, r150_102, r150_103, r150_106, r150_108, tb_vl_some, tb_vl_none, tb_wF_some, nI_add, pk_mul, e_sub, e_div, tb_nmod, e_dec, e_le, e_lt, e_eq, e_eq0, e_lt0, e_0le, e_0lt, e_le0, if_true, if_false, not_true_eq_false, not_false_eq_true, ite_true, ite_false, Nat.reduceAdd, Nat.reduceMul, Nat.reduceLeDiff, Nat.reduceLT, Nat.reduceEqDiff, Nat.reduceSub, ↓reduceIte, Nat.reduceDiv, Nat.reduceMod]
  refine m_settles hS3 hM3.2.2.2.2.2.2.2.1 (sp_I_angle hI hb ha) hb (by omega) (fun h4 F4 hS4 hA4 hF4 => ?_)
  have hM4 := hM3.upS hS4 hA4 hF4
  have g4 := hM4.1.g
  have hO4 := hM4.1.O
  have I4 := sp_I_settle hb 300 _ (sp_I_angle hI hb ha)
  have fin : ∀ (v : Int32) (y : Value), v = sp_til s b a w → tb_wp E d 150 100 [.ref m, .int (nI b), .int (nI a), .int (nI w), .int (nI (s (18 + b))), .int (nI (s (23 + b))), .int (nI (sp_settle b 300 (va_up s (13 + b) a)).2), .long 0] [.int v] h4 nx 0 0 Q := by
    rintro v y rfl
    simp (disch := first | assumption | omega | exact tb_sm0 | exact tb_sm1 _ | exact tb_sm2 _ _ | exact tb_sm3 _ _ _ | exact tb_sm4 _ _ _ _ | exact Or.inl rfl | exact Or.inr rfl | fail) only [r150_0, r150_1, r150_4, r150_5, r150_8, r150_10, r150_11, r150_12, r150_13, r150_15, r150_16, r150_19, r150_21, r150_22, r150_23, r150_24, r150_26, r150_27, r150_30, r150_32, r150_33, r150_34, r150_35, r150_36, r150_37, r150_38, r150_41, r150_44, r150_46, r150_47, r150_50, r150_52, r150_55, r150_56, r150_57, r150_60, r150_61, r150_64, r150_66, r150_67, r150_68, r150_69, r150_71, r150_72, r150_75, r150_76, r150_77, r150_80, r150_81, r150_84, r150_86, r150_87, r150_88, r150_89, r150_91, r150_92, r150_95, r150_96, r150_97, r150_100, r150_102, r150_103, r150_106, r150_108, tb_vl_some, tb_vl_none, tb_wF_some, nI_add, pk_mul, e_sub, e_div, tb_nmod, e_dec, e_le, e_lt, e_eq, e_eq0, e_lt0, e_0le, e_0lt, e_le0, if_true, if_false, not_true_eq_false, not_false_eq_true, ite_true, ite_false, Nat.reduceAdd, Nat.reduceMul, Nat.reduceLeDiff, Nat.reduceLT, Nat.reduceEqDiff, Nat.reduceSub, ↓reduceIte, Nat.reduceDiv, Nat.reduceMod]
    refine m_putBack hM4.1 hM4.2.2.1 hM4.2.1 (fun h5 hA5 hF5 => ?_)
    try simp (disch := first | assumption | omega | exact tb_sm0 | exact tb_sm1 _ | exact tb_sm2 _ _ | exact tb_sm3 _ _ _ | exact tb_sm4 _ _ _ _ | exact Or.inl rfl | exact Or.inr rfl | fail) only [r150_0, r150_1, r150_4, r150_5, r150_8, r150_10, r150_11, r150_12, r150_13, r150_15, r150_16, r150_19, r150_21, r150_22, r150_23, r150_24, r150_26, r150_27, r150_30, r150_32, r150_33, r150_34, r150_35, r150_36, r150_37, r150_38, r150_41, r150_44, r150_46, r150_47, r150_50, r150_52, r150_55, r150_56, r150_57, r150_60, r150_61, r150_64, r150_66, r150_67, r150_68, r150_69, r150_71, r150_72, r150_75, r150_76, r150_77, r150_80, r150_81, r150_84, r150_86, r150_87, r150_88, r150_89, r150_91, r150_92, r150_95, r150_96, r150_97, r150_100, r150_102, r150_103, r150_106, r150_108, tb_vl_some, tb_vl_none, tb_wF_some, nI_add, pk_mul, e_sub, e_div, tb_nmod, e_dec, e_le, e_lt, e_eq, e_eq0, e_lt0, e_0le, e_0lt, e_le0, if_true, if_false, not_true_eq_false, not_false_eq_true, ite_true, ite_false, Nat.reduceAdd, Nat.reduceMul, Nat.reduceLeDiff, Nat.reduceLT, Nat.reduceEqDiff, Nat.reduceSub, ↓reduceIte, Nat.reduceDiv, Nat.reduceMod]
    have hM5 := hM4.upS (s' := s) ⟨⟨_, (hF5 m (by omega)).trans hM4.1, rfl, rfl⟩, hA5⟩ (hM4.2.2.2.2.2.2.2.1.to (hF5 _ (by omega)) (fun _ _ => rfl)) (fun q q1 _ => hF5 q q1)
    refine hQ h5 _ _ hM5 (fun q hq => ?_)
    rw [hF5 q (by omega), hF4 q (by omega) (by omega), hF3 q (by omega), hF2 q (by omega)]
  rcases (by omega : w = 0 ∨ w = 1 ∨ w = 2 ∨ w = 3) with rfl | rfl | rfl | rfl
  · simp (disch := first | assumption | omega | exact tb_sm0 | exact tb_sm1 _ | exact tb_sm2 _ _ | exact tb_sm3 _ _ _ | exact tb_sm4 _ _ _ _ | exact Or.inl rfl | exact Or.inr rfl | fail) only [r150_0, r150_1, r150_4, r150_5, r150_8, r150_10, r150_11, r150_12, r150_13, r150_15, r150_16, r150_19, r150_21, r150_22, r150_23, r150_24, r150_26, r150_27, r150_30, r150_32, r150_33, r150_34, r150_35, r150_36, r150_37, r150_38, r150_41, r150_44, r150_46, r150_47, r150_50, r150_52, r150_55, r150_56, r150_57, r150_60, r150_61, r150_64, r150_66, r150_67, r150_68, r150_69, r150_71, r150_72, r150_75, r150_76, r150_77, r150_80, r150_81, r150_84, r150_86, r150_87, r150_88, r150_89, r150_91, r150_92, r150_95, r150_96, r150_97, r150_102, r150_103, r150_106, r150_108, tb_vl_some, tb_vl_none, tb_wF_some, nI_add, pk_mul, e_sub, e_div, tb_nmod, e_dec, e_le, e_lt, e_eq, e_eq0, e_lt0, e_0le, e_0lt, e_le0, if_true, if_false, not_true_eq_false, not_false_eq_true, ite_true, ite_false, Nat.reduceAdd, Nat.reduceMul, Nat.reduceLeDiff, Nat.reduceLT, Nat.reduceEqDiff, Nat.reduceSub, ↓reduceIte, Nat.reduceDiv, Nat.reduceMod]
    exact fin _ .null rfl
  · simp (disch := first | assumption | omega | exact tb_sm0 | exact tb_sm1 _ | exact tb_sm2 _ _ | exact tb_sm3 _ _ _ | exact tb_sm4 _ _ _ _ | exact Or.inl rfl | exact Or.inr rfl | fail) only [r150_0, r150_1, r150_4, r150_5, r150_8, r150_10, r150_11, r150_12, r150_13, r150_15, r150_16, r150_19, r150_21, r150_22, r150_23, r150_24, r150_26, r150_27, r150_30, r150_32, r150_33, r150_34, r150_35, r150_36, r150_37, r150_38, r150_41, r150_44, r150_46, r150_47, r150_50, r150_52, r150_55, r150_56, r150_57, r150_60, r150_61, r150_64, r150_66, r150_67, r150_68, r150_69, r150_71, r150_72, r150_75, r150_76, r150_77, r150_80, r150_81, r150_84, r150_86, r150_87, r150_88, r150_89, r150_91, r150_92, r150_95, r150_96, r150_97, r150_102, r150_103, r150_106, r150_108, g4, hS4.ld, tb_vl_some, tb_vl_none, tb_wF_some, nI_add, e_eq, e_eq0, not_true_eq_false, not_false_eq_true, if_true, if_false, Nat.reduceEqDiff, ↓reduceIte]
    exact fin _ .null rfl
  · simp (disch := first | assumption | omega | exact tb_sm0 | exact tb_sm1 _ | exact tb_sm2 _ _ | exact tb_sm3 _ _ _ | exact tb_sm4 _ _ _ _ | exact Or.inl rfl | exact Or.inr rfl | fail) only [r150_0, r150_1, r150_4, r150_5, r150_8, r150_10, r150_11, r150_12, r150_13, r150_15, r150_16, r150_19, r150_21, r150_22, r150_23, r150_24, r150_26, r150_27, r150_30, r150_32, r150_33, r150_34, r150_35, r150_36, r150_37, r150_38, r150_41, r150_44, r150_46, r150_47, r150_50, r150_52, r150_55, r150_56, r150_57, r150_60, r150_61, r150_64, r150_66, r150_67, r150_68, r150_69, r150_71, r150_72, r150_75, r150_76, r150_77, r150_80, r150_81, r150_84, r150_86, r150_87, r150_88, r150_89, r150_91, r150_92, r150_95, r150_96, r150_97, r150_102, r150_103, r150_106, r150_108, g4, hS4.ld, tb_vl_some, tb_vl_none, tb_wF_some, nI_add, e_eq, e_eq0, not_true_eq_false, not_false_eq_true, if_true, if_false, Nat.reduceEqDiff, ↓reduceIte]
    exact fin _ .null rfl
  · simp (disch := first | assumption | omega | exact tb_sm0 | exact tb_sm1 _ | exact tb_sm2 _ _ | exact tb_sm3 _ _ _ | exact tb_sm4 _ _ _ _ | exact Or.inl rfl | exact Or.inr rfl | fail) only [r150_0, r150_1, r150_4, r150_5, r150_8, r150_10, r150_11, r150_12, r150_13, r150_15, r150_16, r150_19, r150_21, r150_22, r150_23, r150_24, r150_26, r150_27, r150_30, r150_32, r150_33, r150_34, r150_35, r150_36, r150_37, r150_38, r150_41, r150_44, r150_46, r150_47, r150_50, r150_52, r150_55, r150_56, r150_57, r150_60, r150_61, r150_64, r150_66, r150_67, r150_68, r150_69, r150_71, r150_72, r150_75, r150_76, r150_77, r150_80, r150_81, r150_84, r150_86, r150_87, r150_88, r150_89, r150_91, r150_92, r150_95, r150_96, r150_97, r150_102, r150_103, r150_106, r150_108, m_onBoard hS4 hb, tb_vl_some, tb_vl_none, tb_wF_some, nI_add, pk_mul, e_sub, e_div, tb_nmod, e_dec, e_le, e_lt, e_eq, e_eq0, e_lt0, e_0le, e_0lt, e_le0, if_true, if_false, not_true_eq_false, not_false_eq_true, ite_true, ite_false, Nat.reduceAdd, Nat.reduceMul, Nat.reduceLeDiff, Nat.reduceLT, Nat.reduceEqDiff, Nat.reduceSub, ↓reduceIte, Nat.reduceDiv, Nat.reduceMod]
    exact fin _ .null rfl
end M9
section M9b
variable {E : tb_env} {d : Nat} {h : tb_heap} {nx : Nat} {Q : Option Value → tb_heap → Nat → Prop}
variable {m kn : Nat} {s : Nat → Nat} {hs : Nat → Nat → Nat} {g : sp_G}
theorem m_ifTilted {x y w : Int32} (hF : tb_MF h m s hs kn g) (hI : sp_I s) (hd : 7 ≤ d) (hQ : ∀ h', tb_MF h' m s hs kn g → tb_out h h' m (m + 9) → Q (some (.int (an_til s x y w))) h' nx) :
    tb_wp E d 151 0 [.ref m, .int x, .int y, .int w] [] h nx 0 0 Q := by
  rcases tb_gd x (show 4 < 2 ^ 31 by decide) with hb | ⟨b, hb, rfl⟩
  · have e : an_til s x y w = -1 := by unfold an_til; rw [if_pos hb]
    rw [e] at hQ
    simp (disch := first | assumption | omega | exact tb_sm0 | exact tb_sm1 _ | exact tb_sm2 _ _ | exact tb_sm3 _ _ _ | exact tb_sm4 _ _ _ _ | exact Or.inl rfl | exact Or.inr rfl | fail) only [r151_0, r151_1, r151_4, r151_7, r151_8, r151_11, r151_12, r151_13, r151_15, r151_18, r151_21, r151_22, r151_23, r151_24, r151_27, r151_30, r151_31, r151_32, r151_33, r151_34, r151_37, r151_40, r151_42, m_isBoard_no hb, tb_vl_some, tb_vl_none, tb_wF_some, nI_add, pk_mul, e_sub, e_div, tb_nmod, e_dec, e_le, e_lt, e_eq, e_eq0, e_lt0, e_0le, e_0lt, e_le0, if_true, if_false, not_true_eq_false, not_false_eq_true, ite_true, ite_false, Nat.reduceAdd, Nat.reduceMul, Nat.reduceLeDiff, Nat.reduceLT, Nat.reduceEqDiff, Nat.reduceSub, ↓reduceIte, Nat.reduceDiv, Nat.reduceMod]
    exact hQ h hF tb_out.rf
  · rcases tb_gd y (show 90 < 2 ^ 31 by decide) with ha | ⟨a, ha, rfl⟩
    · have e : an_til s (nI b) y w = -2 := by unfold an_til; rw [if_neg (e_ok hb (by decide)), if_pos (Or.inl ha)]
      rw [e] at hQ
      simp (disch := first | assumption | omega | exact tb_sm0 | exact tb_sm1 _ | exact tb_sm2 _ _ | exact tb_sm3 _ _ _ | exact tb_sm4 _ _ _ _ | exact Or.inl rfl | exact Or.inr rfl | fail) only [r151_0, r151_1, r151_4, r151_7, r151_8, r151_11, r151_12, r151_13, r151_15, r151_18, r151_21, r151_22, r151_23, r151_24, r151_27, r151_30, r151_31, r151_32, r151_33, r151_34, r151_37, r151_40, r151_42, m_isBoard, m_in_no ha, tb_vl_some, tb_vl_none, tb_wF_some, nI_add, pk_mul, e_sub, e_div, tb_nmod, e_dec, e_le, e_lt, e_eq, e_eq0, e_lt0, e_0le, e_0lt, e_le0, if_true, if_false, not_true_eq_false, not_false_eq_true, ite_true, ite_false, Nat.reduceAdd, Nat.reduceMul, Nat.reduceLeDiff, Nat.reduceLT, Nat.reduceEqDiff, Nat.reduceSub, ↓reduceIte, Nat.reduceDiv, Nat.reduceMod]
      exact hQ h hF tb_out.rf
    · rcases tb_gd w (show 3 < 2 ^ 31 by decide) with hw | ⟨w, hw, rfl⟩
      · have e : an_til s (nI b) (nI a) w = -2 := by unfold an_til; rw [if_neg (e_ok hb (by decide)), if_pos (Or.inr hw)]
        rw [e] at hQ
        simp (disch := first | assumption | omega | exact tb_sm0 | exact tb_sm1 _ | exact tb_sm2 _ _ | exact tb_sm3 _ _ _ | exact tb_sm4 _ _ _ _ | exact Or.inl rfl | exact Or.inr rfl | fail) only [r151_0, r151_1, r151_4, r151_7, r151_8, r151_11, r151_12, r151_13, r151_15, r151_18, r151_21, r151_22, r151_23, r151_24, r151_27, r151_30, r151_31, r151_32, r151_33, r151_34, r151_37, r151_40, r151_42, m_isBoard, m_in_n (Nat.zero_le a) ha (by decide), m_in_no hw, tb_vl_some, tb_vl_none, tb_wF_some, nI_add, pk_mul, e_sub, e_div, tb_nmod, e_dec, e_le, e_lt, e_eq, e_eq0, e_lt0, e_0le, e_0lt, e_le0, if_true, if_false, not_true_eq_false, not_false_eq_true, ite_true, ite_false, Nat.reduceAdd, Nat.reduceMul, Nat.reduceLeDiff, Nat.reduceLT, Nat.reduceEqDiff, Nat.reduceSub, ↓reduceIte, Nat.reduceDiv, Nat.reduceMod]
        exact hQ h hF tb_out.rf
      · have e : an_til s (nI b) (nI a) (nI w) = sp_til s b a w := by
          unfold an_til
          rw [if_neg (e_ok hb (by decide)), if_neg (fun q => q.elim (e_ok ha (by decide)) (e_ok hw (by decide))), sp_n_nI (by omega), sp_n_nI (by omega), sp_n_nI (by omega)]
        rw [e] at hQ
        obtain ⟨po, wr, sp, as, ah, cm, od, bf, hM, hH⟩ := hF
        have hO := hM.1.O
        simp (disch := first | assumption | omega | exact tb_sm0 | exact tb_sm1 _ | exact tb_sm2 _ _ | exact tb_sm3 _ _ _ | exact tb_sm4 _ _ _ _ | exact Or.inl rfl | exact Or.inr rfl | fail) only [r151_0, r151_1, r151_4, r151_7, r151_8, r151_11, r151_12, r151_13, r151_15, r151_18, r151_21, r151_22, r151_23, r151_24, r151_27, r151_30, r151_31, r151_32, r151_33, r151_34, r151_37, r151_40, r151_42, m_isBoard, m_in_n (Nat.zero_le a) ha (by decide), m_in_n (Nat.zero_le w) hw (by decide), tb_vl_some, tb_vl_none, tb_wF_some, nI_add, pk_mul, e_sub, e_div, tb_nmod, e_dec, e_le, e_lt, e_eq, e_eq0, e_lt0, e_0le, e_0lt, e_le0, if_true, if_false, not_true_eq_false, not_false_eq_true, ite_true, ite_false, Nat.reduceAdd, Nat.reduceMul, Nat.reduceLeDiff, Nat.reduceLT, Nat.reduceEqDiff, Nat.reduceSub, ↓reduceIte, Nat.reduceDiv, Nat.reduceMod]
        refine m_tilted hM hI (by omega) ha hw (by omega) (fun h2 as2 cm2 hM2 hF2 => ?_)
        try simp (disch := first | assumption | omega | exact tb_sm0 | exact tb_sm1 _ | exact tb_sm2 _ _ | exact tb_sm3 _ _ _ | exact tb_sm4 _ _ _ _ | exact Or.inl rfl | exact Or.inr rfl | fail) only [r151_0, r151_1, r151_4, r151_7, r151_8, r151_11, r151_12, r151_13, r151_15, r151_18, r151_21, r151_22, r151_23, r151_24, r151_27, r151_30, r151_31, r151_32, r151_33, r151_34, r151_37, r151_40, r151_42, tb_vl_some, tb_vl_none, tb_wF_some, nI_add, pk_mul, e_sub, e_div, tb_nmod, e_dec, e_le, e_lt, e_eq, e_eq0, e_lt0, e_0le, e_0lt, e_le0, if_true, if_false, not_true_eq_false, not_false_eq_true, ite_true, ite_false, Nat.reduceAdd, Nat.reduceMul, Nat.reduceLeDiff, Nat.reduceLT, Nat.reduceEqDiff, Nat.reduceSub, ↓reduceIte, Nat.reduceDiv, Nat.reduceMod]
        exact hQ h2 ⟨_, _, _, _, _, _, _, _, hM2, hH⟩ hF2
theorem m_clr_l {b : Nat} (hI : sp_I s) (hb : b < 5) (hd : 7 ≤ d) (n : Nat) : ∀ (h : tb_heap) (i : Nat), i + n = 91 → tb_MF h m s hs kn g → (∀ h', tb_MF h' m s hs kn g → tb_out h h' m (m + 9) → Q (some (.int (sp_clr s b 91))) h' nx) →
    tb_wp E d 152 15 [.ref m, .int (nI b), .int (sp_clr s b i), .int (nI n + (-1))] [] h nx 0 0 Q := by
  induction n with
  | zero =>
    intro h i hi hF hQ
    have e : i = 91 := by omega
    subst e
    simp (disch := first | assumption | omega | exact tb_sm0 | exact tb_sm1 _ | exact tb_sm2 _ _ | exact tb_sm3 _ _ _ | exact tb_sm4 _ _ _ _ | exact Or.inl rfl | exact Or.inr rfl | fail) only [r152_15, r152_16]
    rw [if_pos (by decide)]
    simp (disch := first | assumption | omega | exact tb_sm0 | exact tb_sm1 _ | exact tb_sm2 _ _ | exact tb_sm3 _ _ _ | exact tb_sm4 _ _ _ _ | exact Or.inl rfl | exact Or.inr rfl | fail) only [r152_0, r152_1, r152_4, r152_7, r152_8, r152_9, r152_11, r152_12, r152_14, r152_16, r152_19, r152_20, r152_21, r152_22, r152_23, r152_26, r152_29, r152_30, r152_33, r152_34, r152_35, r152_38, r152_41, r152_42]
    exact hQ h hF tb_out.rf
  | succ n ih =>
    intro h i hi hF hQ
    obtain ⟨po, wr, sp, as, ah, cm, od, bf, hM, hH⟩ := hF
    have hO := hM.1.O
    simp (disch := first | assumption | omega | exact tb_sm0 | exact tb_sm1 _ | exact tb_sm2 _ _ | exact tb_sm3 _ _ _ | exact tb_sm4 _ _ _ _ | exact Or.inl rfl | exact Or.inr rfl | fail) only [r152_15, r152_16, nI_add, pk_mul, e_sub, e_div, tb_nmod, e_dec, e_le, e_lt, e_eq, e_eq0, e_lt0, e_0le, e_0lt, e_le0, if_true, if_false, not_true_eq_false, not_false_eq_true, ite_true, ite_false, Nat.reduceAdd, Nat.reduceMul, Nat.reduceLeDiff, Nat.reduceLT, Nat.reduceEqDiff, Nat.reduceSub, ↓reduceIte, Nat.reduceDiv, Nat.reduceMod, Nat.add_sub_cancel]
    simp (disch := first | assumption | omega | exact tb_sm0 | exact tb_sm1 _ | exact tb_sm2 _ _ | exact tb_sm3 _ _ _ | exact tb_sm4 _ _ _ _ | exact Or.inl rfl | exact Or.inr rfl | fail) only [r152_0, r152_1, r152_4, r152_7, r152_8, r152_9, r152_11, r152_12, r152_14, r152_16, r152_19, r152_20, r152_21, r152_22, r152_23, r152_26, r152_29, r152_30, r152_33, r152_34, r152_35, r152_38, r152_41, r152_42, tb_vl_some, tb_vl_none, tb_wF_some]
    refine m_tilted hM hI hb (by omega) (by decide) (by omega) (fun h2 as2 cm2 hM2 hF2 => ?_)
    have next : ∀ v, v = sp_clr s b (i + 1) → tb_wp E d 152 15 [.ref m, .int (nI b), .int v, .int (nI n + (-1))] [] h2 nx 0 0 Q := by
      rintro v rfl
      exact ih h2 (i + 1) (by omega) ⟨_, _, _, _, _, _, _, _, hM2, hH⟩ (fun h3 h31 h32 => hQ h3 h31 (hF2.tr h32))
    have en : 90 - i = n := by omega
    by_cases c : sp_til s b n 3 = 0
    · simp (disch := first | assumption | omega | exact tb_sm0 | exact tb_sm1 _ | exact tb_sm2 _ _ | exact tb_sm3 _ _ _ | exact tb_sm4 _ _ _ _ | exact Or.inl rfl | exact Or.inr rfl | fail) only [r152_0, r152_1, r152_4, r152_7, r152_8, r152_9, r152_11, r152_12, r152_14, r152_16, r152_19, r152_20, r152_21, r152_22, r152_23, r152_26, r152_29, r152_30, r152_33, r152_34, r152_35, r152_38, r152_41, r152_42, c, tb_vl_some, tb_vl_none, tb_wF_some, not_true_eq_false, if_false, ↓reduceIte]
      refine next _ ?_
      rw [sp_clr, en, if_pos c]
    · simp (disch := first | assumption | omega | exact tb_sm0 | exact tb_sm1 _ | exact tb_sm2 _ _ | exact tb_sm3 _ _ _ | exact tb_sm4 _ _ _ _ | exact Or.inl rfl | exact Or.inr rfl | fail) only [r152_0, r152_1, r152_4, r152_7, r152_8, r152_9, r152_11, r152_12, r152_14, r152_16, r152_19, r152_20, r152_21, r152_22, r152_23, r152_26, r152_29, r152_30, r152_33, r152_34, r152_35, r152_38, r152_41, r152_42, c, tb_vl_some, tb_vl_none, tb_wF_some, not_false_eq_true, if_true, ↓reduceIte]
      refine next _ ?_
      rw [sp_clr, en, if_neg c]
theorem m_clearingAngle {x : Int32} (hF : tb_MF h m s hs kn g) (hI : sp_I s) (hd : 7 ≤ d) (hQ : ∀ h', tb_MF h' m s hs kn g → tb_out h h' m (m + 9) → Q (some (.int (an_clr s x))) h' nx) :
    tb_wp E d 152 0 [.ref m, .int x, .long 0, .long 0] [] h nx 0 0 Q := by
  rcases tb_gd x (show 4 < 2 ^ 31 by decide) with hb | ⟨b, hb, rfl⟩
  · have e : an_clr s x = -1 := by unfold an_clr; rw [if_pos hb]
    rw [e] at hQ
    simp (disch := first | assumption | omega | exact tb_sm0 | exact tb_sm1 _ | exact tb_sm2 _ _ | exact tb_sm3 _ _ _ | exact tb_sm4 _ _ _ _ | exact Or.inl rfl | exact Or.inr rfl | fail) only [r152_0, r152_1, r152_4, r152_7, r152_8, r152_9, r152_11, r152_12, r152_14, r152_16, r152_19, r152_20, r152_21, r152_22, r152_23, r152_26, r152_29, r152_30, r152_33, r152_34, r152_35, r152_38, r152_41, r152_42, m_isBoard_no hb, tb_vl_some, tb_vl_none, tb_wF_some, nI_add, pk_mul, e_sub, e_div, tb_nmod, e_dec, e_le, e_lt, e_eq, e_eq0, e_lt0, e_0le, e_0lt, e_le0, if_true, if_false, not_true_eq_false, not_false_eq_true, ite_true, ite_false, Nat.reduceAdd, Nat.reduceMul, Nat.reduceLeDiff, Nat.reduceLT, Nat.reduceEqDiff, Nat.reduceSub, ↓reduceIte, Nat.reduceDiv, Nat.reduceMod]
    exact hQ h hF tb_out.rf
  · have e : an_clr s (nI b) = sp_clr s b 91 := by unfold an_clr; rw [if_neg (e_ok hb (by decide)), sp_n_nI (by omega)]
    rw [e] at hQ
    simp (disch := first | assumption | omega | exact tb_sm0 | exact tb_sm1 _ | exact tb_sm2 _ _ | exact tb_sm3 _ _ _ | exact tb_sm4 _ _ _ _ | exact Or.inl rfl | exact Or.inr rfl | fail) only [r152_0, r152_1, r152_4, r152_7, r152_8, r152_9, r152_11, r152_12, r152_14, r152_16, r152_19, r152_20, r152_21, r152_22, r152_23, r152_26, r152_29, r152_30, r152_33, r152_34, r152_35, r152_38, r152_41, r152_42, m_isBoard, tb_vl_some, tb_vl_none, tb_wF_some, nI_add, pk_mul, e_sub, e_div, tb_nmod, e_dec, e_le, e_lt, e_eq, e_eq0, e_lt0, e_0le, e_0lt, e_le0, if_true, if_false, not_true_eq_false, not_false_eq_true, ite_true, ite_false, Nat.reduceAdd, Nat.reduceMul, Nat.reduceLeDiff, Nat.reduceLT, Nat.reduceEqDiff, Nat.reduceSub, ↓reduceIte, Nat.reduceDiv, Nat.reduceMod]
    rw [show nI 90 = nI 91 + (-1) by decide]
    exact m_clr_l hI (by omega) hd 91 h 0 rfl hF hQ
theorem m_restsIn {x : Int32} (hF : tb_MF h m s hs kn g) (hI : sp_I s) (hd : 6 ≤ d) (hQ : ∀ h', tb_MF h' m s hs kn g → tb_out h h' m (m + 9) → Q (some (.int (an_rests s x))) h' nx) :
    tb_wp E d 149 0 [.ref m, .int x, .long 0, .long 0] [] h nx 0 0 Q := by
  rcases tb_gd x (show 4 < 2 ^ 31 by decide) with hb | ⟨b, hb, rfl⟩
  · have e : an_rests s x = -1 := by unfold an_rests; rw [if_pos hb]
    rw [e] at hQ
    simp (disch := first | assumption | omega | exact tb_sm0 | exact tb_sm1 _ | exact tb_sm2 _ _ | exact tb_sm3 _ _ _ | exact tb_sm4 _ _ _ _ | exact Or.inl rfl | exact Or.inr rfl | fail) only [r149_0, r149_1, r149_4, r149_7, r149_8, r149_9, r149_10, r149_13, r149_14, r149_15, r149_18, r149_21, r149_22, r149_23, r149_24, r149_27, r149_28, r149_29, r149_32, r149_33, r149_36, r149_37, r149_40, r149_42, m_isBoard_no hb, tb_vl_some, tb_vl_none, tb_wF_some, nI_add, pk_mul, e_sub, e_div, tb_nmod, e_dec, e_le, e_lt, e_eq, e_eq0, e_lt0, e_0le, e_0lt, e_le0, if_true, if_false, not_true_eq_false, not_false_eq_true, ite_true, ite_false, Nat.reduceAdd, Nat.reduceMul, Nat.reduceLeDiff, Nat.reduceLT, Nat.reduceEqDiff, Nat.reduceSub, ↓reduceIte, Nat.reduceDiv, Nat.reduceMod]
    exact hQ h hF tb_out.rf
  · have e : an_rests s (nI b) = bif sp_rb (sp_settle b 300 s).1 b then nI (sp_settle b 300 s).2 else -5 := by unfold an_rests; rw [if_neg (e_ok hb (by decide)), sp_n_nI (by omega)]
    rw [e] at hQ
    obtain ⟨po, wr, sp, as, ah, cm, od, bf, hM, hH⟩ := hF
    have hO := hM.1.O
    simp (disch := first | assumption | omega | exact tb_sm0 | exact tb_sm1 _ | exact tb_sm2 _ _ | exact tb_sm3 _ _ _ | exact tb_sm4 _ _ _ _ | exact Or.inl rfl | exact Or.inr rfl | fail) only [r149_0, r149_1, r149_4, r149_7, r149_8, r149_9, r149_10, r149_13, r149_14, r149_15, r149_18, r149_21, r149_22, r149_23, r149_24, r149_27, r149_28, r149_29, r149_32, r149_33, r149_36, r149_37, r149_40, r149_42, m_isBoard, tb_vl_some, tb_vl_none, tb_wF_some, nI_add, pk_mul, e_sub, e_div, tb_nmod, e_dec, e_le, e_lt, e_eq, e_eq0, e_lt0, e_0le, e_0lt, e_le0, if_true, if_false, not_true_eq_false, not_false_eq_true, ite_true, ite_false, Nat.reduceAdd, Nat.reduceMul, Nat.reduceLeDiff, Nat.reduceLT, Nat.reduceEqDiff, Nat.reduceSub, ↓reduceIte, Nat.reduceDiv, Nat.reduceMod]
    refine m_putAside hM.1 hM.2.1 hM.2.2.1 (fun h2 hA2 hF2 => ?_)
    have hM2 := hM.upAs hA2 hF2
    have hO2 := hM2.1.O
    simp (disch := first | assumption | omega | exact tb_sm0 | exact tb_sm1 _ | exact tb_sm2 _ _ | exact tb_sm3 _ _ _ | exact tb_sm4 _ _ _ _ | exact Or.inl rfl | exact Or.inr rfl | fail) only [r149_0, r149_1, r149_4, r149_7, r149_8, r149_9, r149_10, r149_13, r149_14, r149_15, r149_18, r149_21, r149_22, r149_23, r149_24, r149_27, r149_28, r149_29, r149_32, r149_33, r149_36, r149_37, r149_40, r149_42, tb_vl_some, tb_vl_none, tb_wF_some, nI_add, pk_mul, e_sub, e_div, tb_nmod, e_dec, e_le, e_lt, e_eq, e_eq0, e_lt0, e_0le, e_0lt, e_le0, if_true, if_false, not_true_eq_false, not_false_eq_true, ite_true, ite_false, Nat.reduceAdd, Nat.reduceMul, Nat.reduceLeDiff, Nat.reduceLT, Nat.reduceEqDiff, Nat.reduceSub, ↓reduceIte, Nat.reduceDiv, Nat.reduceMod]
    refine m_settles hM2.S hM2.2.2.2.2.2.2.2.1 hI (by omega) (by omega) (fun h4 F4 hS4 hA4 hF4 => ?_)
    have hM4 := hM2.upS hS4 hA4 hF4
    have hO4 := hM4.1.O
    have I4 := sp_I_settle (show b < 5 by omega) 300 _ hI
    have hl := sp_settle_le b 300 s
    have fin : ∀ v : Int32, v = (bif sp_rb (sp_settle b 300 s).1 b then nI (sp_settle b 300 s).2 else -5) → tb_wp E d 149 28 [.ref m, .int (nI b), .int (nI (sp_settle b 300 s).2), .int (nI (sp_r1 (sp_settle b 300 s).1 b))] [] h4 nx 0 0 Q := by
      rintro v rfl
      simp (disch := first | assumption | omega | exact tb_sm0 | exact tb_sm1 _ | exact tb_sm2 _ _ | exact tb_sm3 _ _ _ | exact tb_sm4 _ _ _ _ | exact Or.inl rfl | exact Or.inr rfl | fail) only [r149_28, r149_29]
      refine m_putBack hM4.1 hM4.2.2.1 hM4.2.1 (fun h5 hA5 hF5 => ?_)
      have hM5 := hM4.upS (s' := s) ⟨⟨_, (hF5 m (by omega)).trans hM4.1, rfl, rfl⟩, hA5⟩ (hM4.2.2.2.2.2.2.2.1.to (hF5 _ (by omega)) (fun _ _ => rfl)) (fun q q1 _ => hF5 q q1)
      have q := hQ h5 ⟨_, _, _, _, _, _, _, _, hM5, hH⟩ (fun q hq => by rw [hF5 q (by omega), hF4 q (by omega) (by omega), hF2 q (by omega)])
      unfold sp_r1
      cases hr : sp_rb (sp_settle b 300 s).1 b with
      | true =>
        rw [hr] at q
        simp (disch := first | assumption | omega | exact tb_sm0 | exact tb_sm1 _ | exact tb_sm2 _ _ | exact tb_sm3 _ _ _ | exact tb_sm4 _ _ _ _ | exact Or.inl rfl | exact Or.inr rfl | fail) only [r149_0, r149_1, r149_4, r149_7, r149_8, r149_9, r149_10, r149_13, r149_14, r149_15, r149_18, r149_21, r149_22, r149_23, r149_24, r149_27, r149_28, r149_29, r149_32, r149_33, r149_36, r149_37, r149_40, r149_42, tb_vl_some, tb_vl_none, tb_wF_some, nI_add, pk_mul, e_sub, e_div, tb_nmod, e_dec, e_le, e_lt, e_eq, e_eq0, e_lt0, e_0le, e_0lt, e_le0, if_true, if_false, not_true_eq_false, not_false_eq_true, ite_true, ite_false, Nat.reduceAdd, Nat.reduceMul, Nat.reduceLeDiff, Nat.reduceLT, Nat.reduceEqDiff, Nat.reduceSub, ↓reduceIte, Nat.reduceDiv, Nat.reduceMod, cond_true]
        exact q
      | false =>
        rw [hr] at q
        simp (disch := first | assumption | omega | exact tb_sm0 | exact tb_sm1 _ | exact tb_sm2 _ _ | exact tb_sm3 _ _ _ | exact tb_sm4 _ _ _ _ | exact Or.inl rfl | exact Or.inr rfl | fail) only [r149_0, r149_1, r149_4, r149_7, r149_8, r149_9, r149_10, r149_13, r149_14, r149_15, r149_18, r149_21, r149_22, r149_23, r149_24, r149_27, r149_28, r149_29, r149_32, r149_33, r149_36, r149_37, r149_40, r149_42, tb_vl_some, tb_vl_none, tb_wF_some, nI_add, pk_mul, e_sub, e_div, tb_nmod, e_dec, e_le, e_lt, e_eq, e_eq0, e_lt0, e_0le, e_0lt, e_le0, if_true, if_false, not_true_eq_false, not_false_eq_true, ite_true, ite_false, Nat.reduceAdd, Nat.reduceMul, Nat.reduceLeDiff, Nat.reduceLT, Nat.reduceEqDiff, Nat.reduceSub, ↓reduceIte, Nat.reduceDiv, Nat.reduceMod, cond_false]
        exact q
    simp (disch := first | assumption | omega | exact tb_sm0 | exact tb_sm1 _ | exact tb_sm2 _ _ | exact tb_sm3 _ _ _ | exact tb_sm4 _ _ _ _ | exact Or.inl rfl | exact Or.inr rfl | fail) only [r149_0, r149_1, r149_4, r149_7, r149_8, r149_9, r149_10, r149_13, r149_14, r149_15, r149_18, r149_21, r149_22, r149_23, r149_24, r149_27, r149_29, r149_32, r149_33, r149_36, r149_37, r149_40, r149_42, m_isAtRest hS4 I4 (show b < 5 by omega), tb_vl_some, tb_vl_none, tb_wF_some, nI_add, pk_mul, e_sub, e_div, tb_nmod, e_dec, e_le, e_lt, e_eq, e_eq0, e_lt0, e_0le, e_0lt, e_le0, if_true, if_false, not_true_eq_false, not_false_eq_true, ite_true, ite_false, Nat.reduceAdd, Nat.reduceMul, Nat.reduceLeDiff, Nat.reduceLT, Nat.reduceEqDiff, Nat.reduceSub, ↓reduceIte, Nat.reduceDiv, Nat.reduceMod]
    exact fin _ rfl
theorem m_undo_l {k : Nat} {bf : Nat → Nat} {ob : Option tb_cell} (hk : k < 4) (ho : ∀ h' : tb_heap, h' m = ob → tb_gf h' m 6 0 = some (.ref (m + 1)) ∧ tb_gf h' m 6 5 = some (.ref (m + 5)) ∧ tb_gf h' m 6 6 = some (.int (nI k))) (n : Nat) : ∀ (i : Nat) (h : tb_heap) (F : Nat → Int32), i + n = 368 → h m = ob → tb_isA h (m + 5) 0 1472 (fun j => nI (bf j)) → tb_isA h (m + 1) 0 368 F → (∀ j, j < i → F j = nI (bf (368 * k + j))) → (∀ h', tb_isA h' (m + 1) 0 368 (fun j => nI (bf (368 * k + j))) → (∀ q, q ≠ m + 1 → h' q = h q) → Q (some (.int (nI k))) h' nx) →
    tb_wp E d 137 22 [.ref m, .int (nI i)] [] h nx 0 0 Q := by
  induction n with
  | zero =>
    intro i h F hi hm hA hB hF hQ
    obtain ⟨g1, g2, g3⟩ := ho h hm
    simp (disch := first | assumption | omega | exact tb_sm0 | exact tb_sm1 _ | exact tb_sm2 _ _ | exact tb_sm3 _ _ _ | exact tb_sm4 _ _ _ _ | exact Or.inl rfl | exact Or.inr rfl | fail) only [r137_22, r137_23, r137_26, nI_add, pk_mul, e_sub, e_div, tb_nmod, e_dec, e_le, e_lt, e_eq, e_eq0, e_lt0, e_0le, e_0lt, e_le0, if_true, if_false, not_true_eq_false, not_false_eq_true, ite_true, ite_false, Nat.reduceAdd, Nat.reduceMul, Nat.reduceLeDiff, Nat.reduceLT, Nat.reduceEqDiff, Nat.reduceSub, ↓reduceIte, Nat.reduceDiv, Nat.reduceMod]
    rw [if_pos (by omega)]
    simp (disch := first | assumption | omega | exact tb_sm0 | exact tb_sm1 _ | exact tb_sm2 _ _ | exact tb_sm3 _ _ _ | exact tb_sm4 _ _ _ _ | exact Or.inl rfl | exact Or.inr rfl | fail) only [r137_56, r137_57, r137_60, g3, tb_vl_some, tb_vl_none, tb_wF_some]
    exact hQ h (hB.to rfl (fun j hj => hF j (by omega))) (fun _ _ => rfl)
  | succ n ih =>
    intro i h F hi hm hA hB hF hQ
    obtain ⟨g1, g2, g3⟩ := ho h hm
    have ld : ∀ {j : Nat} (hj : j < 1472) {K : Int32 → Prop}, tb_wF (tb_ld E h 0 (m + 5) (nI j)) K = K (nI (bf j)) := fun hj => hA.ld hj (by decide)
    simp (disch := first | assumption | omega | exact tb_sm0 | exact tb_sm1 _ | exact tb_sm2 _ _ | exact tb_sm3 _ _ _ | exact tb_sm4 _ _ _ _ | exact Or.inl rfl | exact Or.inr rfl | fail) only [r137_22, r137_23, r137_26, nI_add, pk_mul, e_sub, e_div, tb_nmod, e_dec, e_le, e_lt, e_eq, e_eq0, e_lt0, e_0le, e_0lt, e_le0, if_true, if_false, not_true_eq_false, not_false_eq_true, ite_true, ite_false, Nat.reduceAdd, Nat.reduceMul, Nat.reduceLeDiff, Nat.reduceLT, Nat.reduceEqDiff, Nat.reduceSub, ↓reduceIte, Nat.reduceDiv, Nat.reduceMod]
    rw [if_neg (by omega)]
    simp (disch := first | assumption | omega | exact tb_sm0 | exact tb_sm1 _ | exact tb_sm2 _ _ | exact tb_sm3 _ _ _ | exact tb_sm4 _ _ _ _ | exact Or.inl rfl | exact Or.inr rfl | fail) only [r137_0, r137_1, r137_4, r137_7, r137_9, r137_10, r137_11i, r137_11, r137_12, r137_15, r137_16, r137_17, r137_20, r137_21, r137_23, r137_26, r137_29, r137_30, r137_33, r137_34, r137_35, r137_38, r137_41, r137_42, r137_45, r137_46, r137_47, r137_48, r137_49, r137_50, r137_53, r137_56, r137_57, r137_60, g1, g2, g3, ld, tb_vl_some, tb_vl_none, tb_wF_some, nI_add, pk_mul, e_sub, e_div, tb_nmod, e_dec, e_le, e_lt, e_eq, e_eq0, e_lt0, e_0le, e_0lt, e_le0, if_true, if_false, not_true_eq_false, not_false_eq_true, ite_true, ite_false, Nat.reduceAdd, Nat.reduceMul, Nat.reduceLeDiff, Nat.reduceLT, Nat.reduceEqDiff, Nat.reduceSub, ↓reduceIte, Nat.reduceDiv, Nat.reduceMod]
    refine hB.st (by omega) (by decide) (fun h2 hB2 hF2 => ?_)
    refine ih (i + 1) h2 _ (by omega) (by rw [hF2 _ (by omega), hm]) (hA.to (hF2 _ (by omega)) (fun _ _ => rfl)) hB2 (fun j hj => ?_) (fun h3 h31 h32 => hQ h3 h31 (fun q hq => by rw [h32 q hq, hF2 q hq]))
    unfold upd
    by_cases c : j = i
    · rw [if_pos c, c]
    · rw [if_neg c]; exact hF j (by omega)
theorem m_undo_0 (hF : tb_MF h m s hs 0 g) : tb_wp E d 137 0 [.ref m, .long 0] [] h nx 0 0 Q = Q (some (.int (-5))) h nx := by
  obtain ⟨po, wr, sp, as, ah, cm, od, bf, hM, hH⟩ := hF
  have g0 := hM.1.g
  simp (disch := first | assumption | omega | exact tb_sm0 | exact tb_sm1 _ | exact tb_sm2 _ _ | exact tb_sm3 _ _ _ | exact tb_sm4 _ _ _ _ | exact Or.inl rfl | exact Or.inr rfl | fail) only [r137_0, r137_1, r137_4, r137_7, r137_9, r137_10, r137_11i, r137_11, r137_12, r137_15, r137_16, r137_17, r137_20, r137_21, r137_23, r137_26, r137_29, r137_30, r137_33, r137_34, r137_35, r137_38, r137_41, r137_42, r137_45, r137_46, r137_47, r137_48, r137_49, r137_50, r137_53, r137_56, r137_57, r137_60, g0, tb_vl_some, tb_vl_none, tb_wF_some, nI_add, pk_mul, e_sub, e_div, tb_nmod, e_dec, e_le, e_lt, e_eq, e_eq0, e_lt0, e_0le, e_0lt, e_le0, if_true, if_false, not_true_eq_false, not_false_eq_true, ite_true, ite_false, Nat.reduceAdd, Nat.reduceMul, Nat.reduceLeDiff, Nat.reduceLT, Nat.reduceEqDiff, Nat.reduceSub, ↓reduceIte, Nat.reduceDiv, Nat.reduceMod]
theorem m_undo (hF : tb_MF h m s hs (kn + 1) g) (hQ : ∀ h', tb_MF h' m (hs kn) hs kn g → tb_out h h' m (m + 9) → Q (some (.int (nI kn))) h' nx) :
    tb_wp E d 137 0 [.ref m, .long 0] [] h nx 0 0 Q := by
  obtain ⟨po, wr, sp, as, ah, cm, od, bf, hM, hk, hH⟩ := hF
  have g0 := hM.1.g
  have hne : ¬ kn + 1 = 0 := by omega
  simp (disch := first | assumption | omega | exact tb_sm0 | exact tb_sm1 _ | exact tb_sm2 _ _ | exact tb_sm3 _ _ _ | exact tb_sm4 _ _ _ _ | exact Or.inl rfl | exact Or.inr rfl | fail) only [r137_0, r137_1, r137_4, r137_7, r137_9, r137_10, r137_11i, r137_11, r137_12, r137_15, r137_16, r137_17, r137_20, r137_21, r137_23, r137_26, r137_29, r137_30, r137_33, r137_34, r137_35, r137_38, r137_41, r137_42, r137_45, r137_46, r137_47, r137_48, r137_49, r137_50, r137_53, r137_56, r137_57, r137_60, g0, hne, tb_vl_some, tb_vl_none, tb_wF_some, nI_add, pk_mul, e_sub, e_div, tb_nmod, e_dec, e_le, e_lt, e_eq, e_eq0, e_lt0, e_0le, e_0lt, e_le0, if_true, if_false, not_true_eq_false, not_false_eq_true, ite_true, ite_false, Nat.reduceAdd, Nat.reduceMul, Nat.reduceLeDiff, Nat.reduceLT, Nat.reduceEqDiff, Nat.reduceSub, ↓reduceIte, Nat.reduceDiv, Nat.reduceMod, Nat.add_sub_cancel]
  refine tb_pf_ok hM.1 (by simp) (fun h2 h21 h22 => ?_)
  have hM2 := hM.upO (g' := g) (po' := po) (wr' := wr) (sp' := sp) (kn' := nI kn) h21 ⟨rfl, rfl⟩ h22
  refine m_undo_l (ob := h2 m) (bf := bf) (show kn < 4 by omega) (fun h' hh => ?_) 368 0 h2 _ rfl rfl hM2.2.2.2.2.2.1 hM2.2.1 (fun j hj => by omega) (fun h3 hA3 hF3 => ?_)
  · have h0' : tb_Mo h' m (nI g.2.1) (nI kn) (nI g.2.2.2.1) g.2.2.2.2.1 g.2.2.2.2.2 po wr sp := hh.trans hM2.1
    have g1 := h0'.g
    simp only [g1, and_self]
  · have hA3' : tb_isA h3 (m + 1) 0 368 (fun j => nI (hs kn j)) := hA3.to rfl (fun j hj => by rw [hH kn (by omega) j hj])
    have hM3 := hM2.upS (s' := hs kn) ⟨⟨_, (hF3 m (by omega)).trans hM2.1, rfl, rfl⟩, hA3'⟩ (hM2.2.2.2.2.2.2.2.1.to (hF3 _ (by omega)) (fun _ _ => rfl)) (fun q q1 _ => hF3 q q1)
    exact hQ h3 ⟨_, _, _, _, _, _, _, _, hM3, by omega, fun i hi => hH i (by omega)⟩ (fun q hq => by rw [hF3 q (by omega), h22 q (by omega)])
theorem m_keep_l {f : Nat → Int32} {ob : Option tb_cell} (ho : ∀ h' : tb_heap, h' m = ob → tb_gf h' m 6 3 = some (.ref (m + 4)) ∧ tb_gf h' m 6 0 = some (.ref (m + 1))) (n : Nat) : ∀ (i : Nat) (h : tb_heap) (F : Nat → Int32), i + n = 368 → h m = ob → tb_isA h (m + 1) 0 368 f → tb_isA h (m + 4) 0 368 F → (∀ j, j < i → F j = f j) → (∀ h', tb_isA h' (m + 4) 0 368 f → (∀ q, q ≠ m + 4 → h' q = h q) → tb_wp E d 138 27 [.ref m, .int (nI 368)] [] h' nx 0 0 Q) →
    tb_wp E d 138 2 [.ref m, .int (nI i)] [] h nx 0 0 Q := by
  induction n with
  | zero =>
    intro i h F hi hm hA hB hF hQ
    simp (disch := first | assumption | omega | exact tb_sm0 | exact tb_sm1 _ | exact tb_sm2 _ _ | exact tb_sm3 _ _ _ | exact tb_sm4 _ _ _ _ | exact Or.inl rfl | exact Or.inr rfl | fail) only [r138_2, r138_3, r138_6, nI_add, pk_mul, e_sub, e_div, tb_nmod, e_dec, e_le, e_lt, e_eq, e_eq0, e_lt0, e_0le, e_0lt, e_le0, if_true, if_false, not_true_eq_false, not_false_eq_true, ite_true, ite_false, Nat.reduceAdd, Nat.reduceMul, Nat.reduceLeDiff, Nat.reduceLT, Nat.reduceEqDiff, Nat.reduceSub, ↓reduceIte, Nat.reduceDiv, Nat.reduceMod]
    rw [if_pos (by omega)]
    have e : i = 368 := by omega
    subst e
    exact hQ h (hB.to rfl (fun j hj => hF j (by omega))) (fun _ _ => rfl)
  | succ n ih =>
    intro i h F hi hm hA hB hF hQ
    obtain ⟨g1, g2⟩ := ho h hm
    have ld : ∀ {j : Nat} (hj : j < 368) {K : Int32 → Prop}, tb_wF (tb_ld E h 0 (m + 1) (nI j)) K = K (f j) := fun hj => hA.ld hj (by decide)
    simp (disch := first | assumption | omega | exact tb_sm0 | exact tb_sm1 _ | exact tb_sm2 _ _ | exact tb_sm3 _ _ _ | exact tb_sm4 _ _ _ _ | exact Or.inl rfl | exact Or.inr rfl | fail) only [r138_2, r138_3, r138_6, nI_add, pk_mul, e_sub, e_div, tb_nmod, e_dec, e_le, e_lt, e_eq, e_eq0, e_lt0, e_0le, e_0lt, e_le0, if_true, if_false, not_true_eq_false, not_false_eq_true, ite_true, ite_false, Nat.reduceAdd, Nat.reduceMul, Nat.reduceLeDiff, Nat.reduceLT, Nat.reduceEqDiff, Nat.reduceSub, ↓reduceIte, Nat.reduceDiv, Nat.reduceMod]
    rw [if_neg (by omega)]
    simp (disch := first | assumption | omega | exact tb_sm0 | exact tb_sm1 _ | exact tb_sm2 _ _ | exact tb_sm3 _ _ _ | exact tb_sm4 _ _ _ _ | exact Or.inl rfl | exact Or.inr rfl | fail) only [r138_0, r138_1, r138_3, r138_6, r138_9, r138_10, r138_13, r138_14, r138_15, r138_18, r138_19, r138_20, r138_21, r138_24, r138_28, r138_29, r138_32, r138_33, r138_36, r138_37, r138_38, g1, g2, ld, tb_vl_some, tb_vl_none, tb_wF_some, nI_add, pk_mul, e_sub, e_div, tb_nmod, e_dec, e_le, e_lt, e_eq, e_eq0, e_lt0, e_0le, e_0lt, e_le0, if_true, if_false, not_true_eq_false, not_false_eq_true, ite_true, ite_false, Nat.reduceAdd, Nat.reduceMul, Nat.reduceLeDiff, Nat.reduceLT, Nat.reduceEqDiff, Nat.reduceSub, ↓reduceIte, Nat.reduceDiv, Nat.reduceMod]
    refine hB.st (by omega) (by decide) (fun h2 hB2 hF2 => ?_)
    refine ih (i + 1) h2 _ (by omega) (by rw [hF2 _ (by omega), hm]) (hA.to (hF2 _ (by omega)) (fun _ _ => rfl)) hB2 (fun j hj => ?_) (fun h3 h31 h32 => hQ h3 h31 (fun q hq => by rw [h32 q hq, hF2 q hq]))
    unfold upd
    by_cases c : j = i
    · rw [if_pos c, c]
    · rw [if_neg c]; exact hF j (by omega)
theorem m_keep (hF : tb_MF h m s hs kn g) (hQ : ∀ h', tb_MF h' m s hs kn (s, 1, g.2.2) → tb_out h h' m (m + 9) → Q (some (.int (nI (s 0)))) h' nx) :
    tb_wp E d 138 0 [.ref m, .long 0] [] h nx 0 0 Q := by
  obtain ⟨po, wr, sp, as, ah, cm, od, bf, hM, hH⟩ := hF
  simp (disch := first | assumption | omega | exact tb_sm0 | exact tb_sm1 _ | exact tb_sm2 _ _ | exact tb_sm3 _ _ _ | exact tb_sm4 _ _ _ _ | exact Or.inl rfl | exact Or.inr rfl | fail) only [r138_0, r138_1]
  refine m_keep_l (ob := h m) (fun h' hh => ?_) 368 0 h _ rfl rfl hM.2.1 hM.2.2.2.2.1 (fun j hj => by omega) (fun h2 hA2 hF2 => ?_)
  · have h0' : tb_Mo h' m (nI g.2.1) (nI kn) (nI g.2.2.2.1) g.2.2.2.2.1 g.2.2.2.2.2 po wr sp := hh.trans hM.1
    have g1 := h0'.g
    simp only [g1, and_self]
  · have o2 : tb_Mo h2 m (nI g.2.1) (nI kn) (nI g.2.2.2.1) g.2.2.2.2.1 g.2.2.2.2.2 po wr sp := (hF2 m (by omega)).trans hM.1
    have g2 := o2.g
    simp (disch := first | assumption | omega | exact tb_sm0 | exact tb_sm1 _ | exact tb_sm2 _ _ | exact tb_sm3 _ _ _ | exact tb_sm4 _ _ _ _ | exact Or.inl rfl | exact Or.inr rfl | fail) only [r138_0, r138_1, r138_3, r138_6, r138_9, r138_10, r138_13, r138_14, r138_15, r138_18, r138_19, r138_20, r138_21, r138_24, r138_27, r138_28, r138_29, r138_32, r138_33, r138_36, r138_37, r138_38, g2, tb_vl_some, tb_vl_none, tb_wF_some, nI_add, pk_mul, e_sub, e_div, tb_nmod, e_dec, e_le, e_lt, e_eq, e_eq0, e_lt0, e_0le, e_0lt, e_le0, if_true, if_false, not_true_eq_false, not_false_eq_true, ite_true, ite_false, Nat.reduceAdd, Nat.reduceMul, Nat.reduceLeDiff, Nat.reduceLT, Nat.reduceEqDiff, Nat.reduceSub, ↓reduceIte, Nat.reduceDiv, Nat.reduceMod]
    refine tb_pf_ok o2 (by simp) (fun h3 h31 h32 => ?_)
    have o3 : tb_Mo h3 m (nI 1) (nI kn) (nI g.2.2.2.1) g.2.2.2.2.1 g.2.2.2.2.2 po wr sp := h31
    have fr : ∀ q, q ≠ m + 4 → q ≠ m → h3 q = h q := fun q q1 q2 => by rw [h32 q q2, hF2 q q1]
    have hM3 : tb_MG h3 m s (nI kn) (s, 1, g.2.2) po wr sp as ah cm od bf := by
      obtain ⟨a1, a2, a3, a4, a5, a6, a7, a8, a9⟩ := hM
      exact ⟨o3, a2.to (fr _ (by omega) (by omega)) (fun _ _ => rfl), a3.to (fr _ (by omega) (by omega)) (fun _ _ => rfl), a4.to (fr _ (by omega) (by omega)) (fun _ _ => rfl), hA2.to (h32 _ (by omega)) (fun _ _ => rfl), a6.to (fr _ (by omega) (by omega)) (fun _ _ => rfl), a7.to (fr _ (by omega) (by omega)) (fun _ _ => rfl), a8.to (fr _ (by omega) (by omega)) (fun _ _ => rfl), a9.to (fr _ (by omega) (by omega)) (fun _ _ => rfl)⟩
    have g3 := o3.g
    have S3 := hM3.S
    simp (disch := first | assumption | omega | exact tb_sm0 | exact tb_sm1 _ | exact tb_sm2 _ _ | exact tb_sm3 _ _ _ | exact tb_sm4 _ _ _ _ | exact Or.inl rfl | exact Or.inr rfl | fail) only [r138_0, r138_1, r138_3, r138_6, r138_9, r138_10, r138_13, r138_14, r138_15, r138_18, r138_19, r138_20, r138_21, r138_24, r138_27, r138_28, r138_29, r138_32, r138_33, r138_36, r138_37, r138_38, g3, S3.ld, tb_vl_some, tb_vl_none, tb_wF_some, nI_add, pk_mul, e_sub, e_div, tb_nmod, e_dec, e_le, e_lt, e_eq, e_eq0, e_lt0, e_0le, e_0lt, e_le0, if_true, if_false, not_true_eq_false, not_false_eq_true, ite_true, ite_false, Nat.reduceAdd, Nat.reduceMul, Nat.reduceLeDiff, Nat.reduceLT, Nat.reduceEqDiff, Nat.reduceSub, ↓reduceIte, Nat.reduceDiv, Nat.reduceMod]
    exact hQ h3 ⟨_, _, _, _, _, _, _, _, hM3, hH⟩ (fun q hq => fr q (by omega) (by omega))
theorem m_restore_0 (hF : tb_MF h m s hs kn g) (h0 : g.2.1 = 0) : tb_wp E d 139 0 [.ref m, .long 0] [] h nx 0 0 Q = Q (some (.int (-5))) h nx := by
  obtain ⟨po, wr, sp, as, ah, cm, od, bf, hM, hH⟩ := hF
  have g0 := hM.1.g
  simp (disch := first | assumption | omega | exact tb_sm0 | exact tb_sm1 _ | exact tb_sm2 _ _ | exact tb_sm3 _ _ _ | exact tb_sm4 _ _ _ _ | exact Or.inl rfl | exact Or.inr rfl | fail) only [r139_0, r139_1, r139_4, r139_7, r139_9, r139_10, r139_11, r139_14, r139_15, r139_18, r139_19, r139_21, r139_24, r139_27, r139_28, r139_31, r139_32, r139_33, r139_36, r139_37, r139_38, r139_39, r139_42, r139_45, r139_46, r139_49, r139_50, r139_51, g0, h0, tb_vl_some, tb_vl_none, tb_wF_some, nI_add, pk_mul, e_sub, e_div, tb_nmod, e_dec, e_le, e_lt, e_eq, e_eq0, e_lt0, e_0le, e_0lt, e_le0, if_true, if_false, not_true_eq_false, not_false_eq_true, ite_true, ite_false, Nat.reduceAdd, Nat.reduceMul, Nat.reduceLeDiff, Nat.reduceLT, Nat.reduceEqDiff, Nat.reduceSub, ↓reduceIte, Nat.reduceDiv, Nat.reduceMod]
theorem m_restore_l {f : Nat → Nat} {ob : Option tb_cell} (ho : ∀ h' : tb_heap, h' m = ob → tb_gf h' m 6 0 = some (.ref (m + 1)) ∧ tb_gf h' m 6 3 = some (.ref (m + 4))) (n : Nat) : ∀ (i : Nat) (h : tb_heap) (F : Nat → Int32), i + n = 368 → h m = ob → tb_isA h (m + 4) 0 368 (fun j => nI (f j)) → tb_isA h (m + 1) 0 368 F → (∀ j, j < i → F j = nI (f j)) → (∀ h', tb_isA h' (m + 1) 0 368 (fun j => nI (f j)) → (∀ q, q ≠ m + 1 → h' q = h q) → Q (some (.int (nI (f 0)))) h' nx) →
    tb_wp E d 139 20 [.ref m, .int (nI i)] [] h nx 0 0 Q := by
  induction n with
  | zero =>
    intro i h F hi hm hA hB hF hQ
    obtain ⟨g1, g2⟩ := ho h hm
    have hB' : tb_isA h (m + 1) 0 368 (fun j => nI (f j)) := hB.to rfl (fun j hj => hF j (by omega))
    have ld : ∀ {j : Nat} (hj : j < 368) {K : Int32 → Prop}, tb_wF (tb_ld E h 0 (m + 1) (nI j)) K = K (nI (f j)) := fun hj => hB'.ld hj (by decide)
    simp (disch := first | assumption | omega | exact tb_sm0 | exact tb_sm1 _ | exact tb_sm2 _ _ | exact tb_sm3 _ _ _ | exact tb_sm4 _ _ _ _ | exact Or.inl rfl | exact Or.inr rfl | fail) only [r139_20, r139_21, r139_24, nI_add, pk_mul, e_sub, e_div, tb_nmod, e_dec, e_le, e_lt, e_eq, e_eq0, e_lt0, e_0le, e_0lt, e_le0, if_true, if_false, not_true_eq_false, not_false_eq_true, ite_true, ite_false, Nat.reduceAdd, Nat.reduceMul, Nat.reduceLeDiff, Nat.reduceLT, Nat.reduceEqDiff, Nat.reduceSub, ↓reduceIte, Nat.reduceDiv, Nat.reduceMod]
    rw [if_pos (by omega)]
    simp (disch := first | assumption | omega | exact tb_sm0 | exact tb_sm1 _ | exact tb_sm2 _ _ | exact tb_sm3 _ _ _ | exact tb_sm4 _ _ _ _ | exact Or.inl rfl | exact Or.inr rfl | fail) only [r139_45, r139_46, r139_49, r139_50, r139_51, g1, ld, tb_vl_some, tb_vl_none, tb_wF_some]
    exact hQ h hB' (fun _ _ => rfl)
  | succ n ih =>
    intro i h F hi hm hA hB hF hQ
    obtain ⟨g1, g2⟩ := ho h hm
    have ld : ∀ {j : Nat} (hj : j < 368) {K : Int32 → Prop}, tb_wF (tb_ld E h 0 (m + 4) (nI j)) K = K (nI (f j)) := fun hj => hA.ld hj (by decide)
    simp (disch := first | assumption | omega | exact tb_sm0 | exact tb_sm1 _ | exact tb_sm2 _ _ | exact tb_sm3 _ _ _ | exact tb_sm4 _ _ _ _ | exact Or.inl rfl | exact Or.inr rfl | fail) only [r139_20, r139_21, r139_24, nI_add, pk_mul, e_sub, e_div, tb_nmod, e_dec, e_le, e_lt, e_eq, e_eq0, e_lt0, e_0le, e_0lt, e_le0, if_true, if_false, not_true_eq_false, not_false_eq_true, ite_true, ite_false, Nat.reduceAdd, Nat.reduceMul, Nat.reduceLeDiff, Nat.reduceLT, Nat.reduceEqDiff, Nat.reduceSub, ↓reduceIte, Nat.reduceDiv, Nat.reduceMod]
    rw [if_neg (by omega)]
    simp (disch := first | assumption | omega | exact tb_sm0 | exact tb_sm1 _ | exact tb_sm2 _ _ | exact tb_sm3 _ _ _ | exact tb_sm4 _ _ _ _ | exact Or.inl rfl | exact Or.inr rfl | fail) only [r139_0, r139_1, r139_4, r139_7, r139_9, r139_10, r139_11, r139_14, r139_15, r139_18, r139_19, r139_21, r139_24, r139_27, r139_28, r139_31, r139_32, r139_33, r139_36, r139_37, r139_38, r139_39, r139_42, r139_45, r139_46, r139_49, r139_50, r139_51, g1, g2, ld, tb_vl_some, tb_vl_none, tb_wF_some, nI_add, pk_mul, e_sub, e_div, tb_nmod, e_dec, e_le, e_lt, e_eq, e_eq0, e_lt0, e_0le, e_0lt, e_le0, if_true, if_false, not_true_eq_false, not_false_eq_true, ite_true, ite_false, Nat.reduceAdd, Nat.reduceMul, Nat.reduceLeDiff, Nat.reduceLT, Nat.reduceEqDiff, Nat.reduceSub, ↓reduceIte, Nat.reduceDiv, Nat.reduceMod]
    refine hB.st (by omega) (by decide) (fun h2 hB2 hF2 => ?_)
    refine ih (i + 1) h2 _ (by omega) (by rw [hF2 _ (by omega), hm]) (hA.to (hF2 _ (by omega)) (fun _ _ => rfl)) hB2 (fun j hj => ?_) (fun h3 h31 h32 => hQ h3 h31 (fun q hq => by rw [h32 q hq, hF2 q hq]))
    unfold upd
    by_cases c : j = i
    · rw [if_pos c, c]
    · rw [if_neg c]; exact hF j (by omega)
theorem m_restore (hF : tb_MF h m s hs kn g) (h1 : g.2.1 = 1) (hd : 1 ≤ d) (hQ : ∀ h', tb_MF h' m g.1 (sp_rec hs kn s).1 (sp_rec hs kn s).2 g → tb_out h h' m (m + 9) → Q (some (.int (nI (g.1 0)))) h' nx) :
    tb_wp E d 139 0 [.ref m, .long 0] [] h nx 0 0 Q := by
  obtain ⟨po, wr, sp, as, ah, cm, od, bf, hM, hH⟩ := hF
  have g0 := hM.1.g
  have hO := hM.1.O
  simp (disch := first | assumption | omega | exact tb_sm0 | exact tb_sm1 _ | exact tb_sm2 _ _ | exact tb_sm3 _ _ _ | exact tb_sm4 _ _ _ _ | exact Or.inl rfl | exact Or.inr rfl | fail) only [r139_0, r139_1, r139_4, r139_7, r139_9, r139_10, r139_11, r139_14, r139_15, r139_18, r139_19, r139_21, r139_24, r139_27, r139_28, r139_31, r139_32, r139_33, r139_36, r139_37, r139_38, r139_39, r139_42, r139_45, r139_46, r139_49, r139_50, r139_51, g0, h1, tb_vl_some, tb_vl_none, tb_wF_some, nI_add, pk_mul, e_sub, e_div, tb_nmod, e_dec, e_le, e_lt, e_eq, e_eq0, e_lt0, e_0le, e_0lt, e_le0, if_true, if_false, not_true_eq_false, not_false_eq_true, ite_true, ite_false, Nat.reduceAdd, Nat.reduceMul, Nat.reduceLeDiff, Nat.reduceLT, Nat.reduceEqDiff, Nat.reduceSub, ↓reduceIte, Nat.reduceDiv, Nat.reduceMod]
  refine m_looks hM.1 hM.2.1 hM.2.2.2.1 (fun h2 hA2 hF2 => ?_)
  have hM2 := hM.upA hA2 hF2
  have hO2 := hM2.1.O
  simp (disch := first | assumption | omega | exact tb_sm0 | exact tb_sm1 _ | exact tb_sm2 _ _ | exact tb_sm3 _ _ _ | exact tb_sm4 _ _ _ _ | exact Or.inl rfl | exact Or.inr rfl | fail) only [r139_0, r139_1, r139_4, r139_7, r139_9, r139_10, r139_11, r139_14, r139_15, r139_18, r139_19, r139_21, r139_24, r139_27, r139_28, r139_31, r139_32, r139_33, r139_36, r139_37, r139_38, r139_39, r139_42, r139_45, r139_46, r139_49, r139_50, r139_51, tb_vl_some, tb_vl_none, tb_wF_some, nI_add, pk_mul, e_sub, e_div, tb_nmod, e_dec, e_le, e_lt, e_eq, e_eq0, e_lt0, e_0le, e_0lt, e_le0, if_true, if_false, not_true_eq_false, not_false_eq_true, ite_true, ite_false, Nat.reduceAdd, Nat.reduceMul, Nat.reduceLeDiff, Nat.reduceLT, Nat.reduceEqDiff, Nat.reduceSub, ↓reduceIte, Nat.reduceDiv, Nat.reduceMod]
  refine m_records hM2 hH (fun h3 bf3 hM3 hH3 hF3 => ?_)
  try simp (disch := first | assumption | omega | exact tb_sm0 | exact tb_sm1 _ | exact tb_sm2 _ _ | exact tb_sm3 _ _ _ | exact tb_sm4 _ _ _ _ | exact Or.inl rfl | exact Or.inr rfl | fail) only [r139_0, r139_1, r139_4, r139_7, r139_9, r139_10, r139_11, r139_14, r139_15, r139_18, r139_19, r139_21, r139_24, r139_27, r139_28, r139_31, r139_32, r139_33, r139_36, r139_37, r139_38, r139_39, r139_42, r139_45, r139_46, r139_49, r139_50, r139_51, tb_vl_some, tb_vl_none, tb_wF_some, nI_add, pk_mul, e_sub, e_div, tb_nmod, e_dec, e_le, e_lt, e_eq, e_eq0, e_lt0, e_0le, e_0lt, e_le0, if_true, if_false, not_true_eq_false, not_false_eq_true, ite_true, ite_false, Nat.reduceAdd, Nat.reduceMul, Nat.reduceLeDiff, Nat.reduceLT, Nat.reduceEqDiff, Nat.reduceSub, ↓reduceIte, Nat.reduceDiv, Nat.reduceMod]
  refine m_restore_l (ob := h3 m) (f := g.1) (fun h' hh => ?_) 368 0 h3 _ rfl rfl hM3.2.2.2.2.1 hM3.2.1 (fun j hj => by omega) (fun h4 hA4 hF4 => ?_)
  · have h0' : tb_Mo h' m (nI g.2.1) (nI (sp_rec hs kn s).2) (nI g.2.2.2.1) g.2.2.2.2.1 g.2.2.2.2.2 po wr sp := hh.trans hM3.1
    have g1 := h0'.g
    simp only [g1, and_self]
  · have hM4 := hM3.upS (s' := g.1) ⟨⟨_, (hF4 m (by omega)).trans hM3.1, rfl, rfl⟩, hA4⟩ (hM3.2.2.2.2.2.2.2.1.to (hF4 _ (by omega)) (fun _ _ => rfl)) (fun q q1 _ => hF4 q q1)
    exact hQ h4 ⟨_, _, _, _, _, _, _, _, hM4, hH3⟩ (fun q hq => by rw [hF4 q (by omega), hF3 q (by omega) (by omega), hF2 q (by omega)])
theorem m_type_f {c : Int32} (hF : tb_MF h m s hs kn g) (h60 : g.2.2.2.1 = 60) : tb_wp E d 127 0 [.ref m, .int c] [] h nx 0 0 Q = Q (some (.int (-3))) h nx := by
  obtain ⟨po, wr, sp, as, ah, cm, od, bf, hM, hH⟩ := hF
  have g0 := hM.1.g
  simp (disch := first | assumption | omega | exact tb_sm0 | exact tb_sm1 _ | exact tb_sm2 _ _ | exact tb_sm3 _ _ _ | exact tb_sm4 _ _ _ _ | exact Or.inl rfl | exact Or.inr rfl | fail) only [r127_0, r127_1, r127_4, r127_6, r127_9, r127_11, r127_12, r127_13, r127_16, r127_17, r127_20, r127_21, r127_22, r127_23i, r127_23, r127_24, r127_27, r127_28, r127_29, r127_32, r127_33, r127_36, g0, h60, tb_vl_some, tb_vl_none, tb_wF_some, nI_add, pk_mul, e_sub, e_div, tb_nmod, e_dec, e_le, e_lt, e_eq, e_eq0, e_lt0, e_0le, e_0lt, e_le0, if_true, if_false, not_true_eq_false, not_false_eq_true, ite_true, ite_false, Nat.reduceAdd, Nat.reduceMul, Nat.reduceLeDiff, Nat.reduceLT, Nat.reduceEqDiff, Nat.reduceSub, ↓reduceIte, Nat.reduceDiv, Nat.reduceMod]
theorem m_type {c : Nat} (hF : tb_MF h m s hs kn g) (h60 : g.2.2.2.1 < 60) (hQ : ∀ h', tb_MF h' m s hs kn (g.1, g.2.1, va_up g.2.2.1 g.2.2.2.1 c, g.2.2.2.1 + 1, g.2.2.2.2) → tb_out h h' m (m + 9) → Q (some (.int (nI (g.2.2.2.1 + 1)))) h' nx) :
    tb_wp E d 127 0 [.ref m, .int (nI c)] [] h nx 0 0 Q := by
  obtain ⟨po, wr, sp, as, ah, cm, od, bf, hM, hH⟩ := hF
  have g0 := hM.1.g
  have hne : ¬ g.2.2.2.1 = 60 := by omega
  simp (disch := first | assumption | omega | exact tb_sm0 | exact tb_sm1 _ | exact tb_sm2 _ _ | exact tb_sm3 _ _ _ | exact tb_sm4 _ _ _ _ | exact Or.inl rfl | exact Or.inr rfl | fail) only [r127_0, r127_1, r127_4, r127_6, r127_9, r127_11, r127_12, r127_13, r127_16, r127_17, r127_20, r127_21, r127_22, r127_23i, r127_23, r127_24, r127_27, r127_28, r127_29, r127_32, r127_33, r127_36, g0, hne, tb_vl_some, tb_vl_none, tb_wF_some, nI_add, pk_mul, e_sub, e_div, tb_nmod, e_dec, e_le, e_lt, e_eq, e_eq0, e_lt0, e_0le, e_0lt, e_le0, if_true, if_false, not_true_eq_false, not_false_eq_true, ite_true, ite_false, Nat.reduceAdd, Nat.reduceMul, Nat.reduceLeDiff, Nat.reduceLT, Nat.reduceEqDiff, Nat.reduceSub, ↓reduceIte, Nat.reduceDiv, Nat.reduceMod]
  refine hM.2.2.2.2.2.2.1.st h60 (by decide) (fun h2 hA2 hF2 => ?_)
  have o2 : tb_Mo h2 m (nI g.2.1) (nI kn) (nI g.2.2.2.1) g.2.2.2.2.1 g.2.2.2.2.2 po wr sp := (hF2 m (by omega)).trans hM.1
  have g2 := o2.g
  simp (disch := first | assumption | omega | exact tb_sm0 | exact tb_sm1 _ | exact tb_sm2 _ _ | exact tb_sm3 _ _ _ | exact tb_sm4 _ _ _ _ | exact Or.inl rfl | exact Or.inr rfl | fail) only [r127_0, r127_1, r127_4, r127_6, r127_9, r127_11, r127_12, r127_13, r127_16, r127_17, r127_20, r127_21, r127_22, r127_23i, r127_23, r127_24, r127_27, r127_28, r127_29, r127_32, r127_33, r127_36, g2, tb_vl_some, tb_vl_none, tb_wF_some, nI_add, pk_mul, e_sub, e_div, tb_nmod, e_dec, e_le, e_lt, e_eq, e_eq0, e_lt0, e_0le, e_0lt, e_le0, if_true, if_false, not_true_eq_false, not_false_eq_true, ite_true, ite_false, Nat.reduceAdd, Nat.reduceMul, Nat.reduceLeDiff, Nat.reduceLT, Nat.reduceEqDiff, Nat.reduceSub, ↓reduceIte, Nat.reduceDiv, Nat.reduceMod]
  refine tb_pf_ok o2 (by simp) (fun h3 h31 h32 => ?_)
  have o3 : tb_Mo h3 m (nI g.2.1) (nI kn) (nI (g.2.2.2.1 + 1)) g.2.2.2.2.1 g.2.2.2.2.2 po wr sp := h31
  have g3 := o3.g
  simp (disch := first | assumption | omega | exact tb_sm0 | exact tb_sm1 _ | exact tb_sm2 _ _ | exact tb_sm3 _ _ _ | exact tb_sm4 _ _ _ _ | exact Or.inl rfl | exact Or.inr rfl | fail) only [r127_0, r127_1, r127_4, r127_6, r127_9, r127_11, r127_12, r127_13, r127_16, r127_17, r127_20, r127_21, r127_22, r127_23i, r127_23, r127_24, r127_27, r127_28, r127_29, r127_32, r127_33, r127_36, g3, tb_vl_some, tb_vl_none, tb_wF_some, nI_add, pk_mul, e_sub, e_div, tb_nmod, e_dec, e_le, e_lt, e_eq, e_eq0, e_lt0, e_0le, e_0lt, e_le0, if_true, if_false, not_true_eq_false, not_false_eq_true, ite_true, ite_false, Nat.reduceAdd, Nat.reduceMul, Nat.reduceLeDiff, Nat.reduceLT, Nat.reduceEqDiff, Nat.reduceSub, ↓reduceIte, Nat.reduceDiv, Nat.reduceMod]
  have fr : ∀ q, q ≠ m + 6 → q ≠ m → h3 q = h q := fun q q1 q2 => by rw [h32 q q2, hF2 q q1]
  refine hQ h3 ⟨po, wr, sp, as, ah, cm, od, bf, ?_, hH⟩ (fun q hq => fr q (by omega) (by omega))
  obtain ⟨a1, a2, a3, a4, a5, a6, a7, a8, a9⟩ := hM
  refine ⟨o3, a2.to (fr _ (by omega) (by omega)) (fun _ _ => rfl), a3.to (fr _ (by omega) (by omega)) (fun _ _ => rfl), a4.to (fr _ (by omega) (by omega)) (fun _ _ => rfl), a5.to (fr _ (by omega) (by omega)) (fun _ _ => rfl), a6.to (fr _ (by omega) (by omega)) (fun _ _ => rfl), hA2.to (h32 _ (by omega)) (fun j _ => ?_), a8.to (fr _ (by omega) (by omega)) (fun _ _ => rfl), a9.to (fr _ (by omega) (by omega)) (fun _ _ => rfl)⟩
  unfold upd va_up
  dsimp only
  split <;> rfl
theorem m_clearText (hF : tb_MF h m s hs kn g) (hQ : ∀ h', tb_MF h' m s hs kn (g.1, g.2.1, g.2.2.1, 0, g.2.2.2.2) → tb_out h h' m (m + 9) → Q (some (.int (nI g.2.2.2.1))) h' nx) :
    tb_wp E d 128 0 [.ref m, .long 0] [] h nx 0 0 Q := by
  obtain ⟨po, wr, sp, as, ah, cm, od, bf, hM, hH⟩ := hF
  have g0 := hM.1.g
  simp (disch := first | assumption | omega | exact tb_sm0 | exact tb_sm1 _ | exact tb_sm2 _ _ | exact tb_sm3 _ _ _ | exact tb_sm4 _ _ _ _ | exact Or.inl rfl | exact Or.inr rfl | fail) only [r128_0, r128_1, r128_4, r128_5, r128_6, r128_7, r128_10, r128_11, g0, tb_vl_some, tb_vl_none, tb_wF_some, nI_add, pk_mul, e_sub, e_div, tb_nmod, e_dec, e_le, e_lt, e_eq, e_eq0, e_lt0, e_0le, e_0lt, e_le0, if_true, if_false, not_true_eq_false, not_false_eq_true, ite_true, ite_false, Nat.reduceAdd, Nat.reduceMul, Nat.reduceLeDiff, Nat.reduceLT, Nat.reduceEqDiff, Nat.reduceSub, ↓reduceIte, Nat.reduceDiv, Nat.reduceMod]
  refine tb_pf_ok hM.1 (by simp) (fun h3 h31 h32 => ?_)
  exact hQ h3 ⟨_, _, _, _, _, _, _, _, hM.upO (g' := (g.1, g.2.1, g.2.2.1, 0, g.2.2.2.2)) (po' := po) (wr' := wr) (sp' := sp) (kn' := nI kn) h31 ⟨rfl, rfl⟩ h32, hH⟩ (fun q hq => h32 q (by omega))
def an_stop (sa sb x : Int32) : Int32 := if x = 0 then sa else if x = nI 1 then sb else -2
theorem m_stopped {x : Int32} (hF : tb_MF h m s hs kn g) : tb_wp E d 136 0 [.ref m, .int x] [] h nx 0 0 Q = Q (some (.int (an_stop g.2.2.2.2.1 g.2.2.2.2.2 x))) h nx := by
  obtain ⟨po, wr, sp, as, ah, cm, od, bf, hM, hH⟩ := hF
  have g0 := hM.1.g
  unfold an_stop
  by_cases c1 : x = 0
  · simp (disch := first | assumption | omega | exact tb_sm0 | exact tb_sm1 _ | exact tb_sm2 _ _ | exact tb_sm3 _ _ _ | exact tb_sm4 _ _ _ _ | exact Or.inl rfl | exact Or.inr rfl | fail) only [r136_0, r136_1, r136_4, r136_5, r136_8, r136_11, r136_12, r136_13, r136_16, r136_17, r136_20, r136_23, r136_25, g0, c1, tb_vl_some, tb_vl_none, tb_wF_some, not_true_eq_false, if_false, if_true, ↓reduceIte]
  · by_cases c2 : x = nI 1
    · rw [if_neg c1]
      simp (disch := first | assumption | omega | exact tb_sm0 | exact tb_sm1 _ | exact tb_sm2 _ _ | exact tb_sm3 _ _ _ | exact tb_sm4 _ _ _ _ | exact Or.inl rfl | exact Or.inr rfl | fail) only [r136_0, r136_1, r136_4, r136_5, r136_8, r136_11, r136_12, r136_13, r136_16, r136_17, r136_20, r136_23, r136_25, g0, c1, eq_true c2, tb_vl_some, tb_vl_none, tb_wF_some, not_true_eq_false, not_false_eq_true, if_false, if_true, ↓reduceIte]
    · simp (disch := first | assumption | omega | exact tb_sm0 | exact tb_sm1 _ | exact tb_sm2 _ _ | exact tb_sm3 _ _ _ | exact tb_sm4 _ _ _ _ | exact Or.inl rfl | exact Or.inr rfl | fail) only [r136_0, r136_1, r136_4, r136_5, r136_8, r136_11, r136_12, r136_13, r136_16, r136_17, r136_20, r136_23, r136_25, g0, c1, c2, tb_vl_some, tb_vl_none, tb_wF_some, not_false_eq_true, if_true, if_false, ↓reduceIte]
end M9b
