/-! THE CLASS: kinds in order -/
theorem sp_lt_le (s : Nat → Nat) (i j : Nat) : sp_lt s i j ≤ 1 := by unfold sp_lt; split <;> decide
theorem sp_lt_self (s : Nat → Nat) (k : Nat) : sp_lt s k k = 0 := by unfold sp_lt; rw [if_neg (by omega)]
theorem sp_rank_lt (s : Nat → Nat) {k : Nat} (hk : k < 4) : sp_rank s k < 4 := by
  have a0 := sp_lt_le s 0 k
  have a1 := sp_lt_le s 1 k
  have a2 := sp_lt_le s 2 k
  have a3 := sp_lt_le s 3 k
  unfold sp_rank
  rcases (by omega : k = 0 ∨ k = 1 ∨ k = 2 ∨ k = 3) with rfl | rfl | rfl | rfl
  · have := sp_lt_self s 0; omega
  · have := sp_lt_self s 1; omega
  · have := sp_lt_self s 2; omega
  · have := sp_lt_self s 3; omega
/-- the rules while they are being made -/
def tb_Rg (h : tb_heap) (a : Nat) (s : Nat → Nat) (F : Nat → Int32) : Prop := h a = some (.inl (3, [.ref (a + 1), .ref (a + 2), .ref (a + 3)])) ∧ tb_isA h (a + 1) 0 4 (fun k => nI (s (5 + k))) ∧ tb_isA h (a + 2) 0 3 (fun k => nI (s (1 + k))) ∧ tb_isA h (a + 3) 0 4 F
theorem tb_Rg.g {h : tb_heap} {a : Nat} {s : Nat → Nat} {F : Nat → Int32} (h0 : tb_Rg h a s F) : tb_gf h a 3 0 = some (.ref (a + 1)) ∧ tb_gf h a 3 1 = some (.ref (a + 2)) ∧ tb_gf h a 3 2 = some (.ref (a + 3)) := by
  unfold tb_gf
  rw [h0.1]
  exact ⟨rfl, rfl, rfl⟩
section C5
variable {E : tb_env} {d : Nat} {h : tb_heap} {nx : Nat} {Q : Option Value → tb_heap → Nat → Prop} {a : Nat} {s : Nat → Nat} {F : Nat → Int32}
theorem tb_Rg.G (hR : tb_Rg h a s F) {j : Nat} (hj : j < 4) {K : Int32 → Prop} : tb_wF (tb_ld E h 0 (a + 1) (nI j)) K = K (nI (s (5 + j))) := hR.2.1.ld hj (by decide)
theorem c_sort_i {k j c : Nat} (hR : tb_Rg h a s F) (hI : ∀ k, k < 4 → s (5 + k) < 2 ^ 31) (hk : k < 4) (hj : j < 4) (hQ : tb_wp E d 23 11 [.ref a, .int (nI k), .int (nI (c + sp_lt s j k)), .int (nI (j + 1))] [] h nx 0 0 Q) :
    tb_wp E d 23 11 [.ref a, .int (nI k), .int (nI c), .int (nI j)] [] h nx 0 0 Q := by
  have g := hR.g
  have hkk := hI k hk
  have hjj := hI j hj
  have hj4 : ¬ 4 ≤ j := by omega
  have G := fun {j : Nat} (hj : j < 4) {K : Int32 → Prop} => hR.G (E := E) (j := j) hj (K := K)
  simp (disch := first | assumption | omega | exact tb_sm0 | exact tb_sm1 _ | exact tb_sm2 _ _ | exact tb_sm3 _ _ _ | exact tb_sm4 _ _ _ _ | exact Or.inl rfl | exact Or.inr rfl | fail) only [r23_11, r23_12, r23_13, hj4, nI_add, pk_mul, e_sub, e_div, tb_nmod, e_dec, e_le, e_lt, e_eq, e_eq0, e_lt0, e_0le, e_0lt, e_le0, if_true, if_false, not_true_eq_false, not_false_eq_true, ite_true, ite_false, Nat.reduceAdd, Nat.reduceMul, Nat.reduceLeDiff, Nat.reduceLT, Nat.reduceEqDiff, Nat.reduceSub, ↓reduceIte, Nat.reduceDiv, Nat.reduceMod]
  unfold sp_lt at hQ
  by_cases c1 : s (5 + j) < s (5 + k)
  · rw [if_pos (Or.inl c1)] at hQ
    simp (disch := first | assumption | omega | exact tb_sm0 | exact tb_sm1 _ | exact tb_sm2 _ _ | exact tb_sm3 _ _ _ | exact tb_sm4 _ _ _ _ | exact Or.inl rfl | exact Or.inr rfl | fail) only [r23_0, r23_1, r23_2, r23_3, r23_4, r23_7, r23_8, r23_9, r23_10, r23_12, r23_13, r23_16, r23_17, r23_20, r23_21, r23_22, r23_23, r23_26, r23_27, r23_28, r23_31, r23_32, r23_35, r23_36, r23_37, r23_38, r23_41, r23_42, r23_43, r23_46, r23_47, r23_48, r23_51, r23_54, r23_57, r23_60, r23_61, r23_64, r23_65, r23_66, r23_67, r23_70, r23_73, g, G, c1, tb_vl_some, tb_vl_none, tb_wF_some, nI_add, pk_mul, e_sub, e_div, tb_nmod, e_dec, e_le, e_lt, e_eq, e_eq0, e_lt0, e_0le, e_0lt, e_le0, if_true, if_false, not_true_eq_false, not_false_eq_true, ite_true, ite_false, Nat.reduceAdd, Nat.reduceMul, Nat.reduceLeDiff, Nat.reduceLT, Nat.reduceEqDiff, Nat.reduceSub, ↓reduceIte, Nat.reduceDiv, Nat.reduceMod]
    exact hQ
  · by_cases c2 : s (5 + j) = s (5 + k)
    · by_cases c3 : j < k
      · have c3' : ¬ k ≤ j := by omega
        rw [if_pos (Or.inr ⟨c2, c3⟩)] at hQ
        simp (disch := first | assumption | omega | exact tb_sm0 | exact tb_sm1 _ | exact tb_sm2 _ _ | exact tb_sm3 _ _ _ | exact tb_sm4 _ _ _ _ | exact Or.inl rfl | exact Or.inr rfl | fail) only [r23_0, r23_1, r23_2, r23_3, r23_4, r23_7, r23_8, r23_9, r23_10, r23_12, r23_13, r23_16, r23_17, r23_20, r23_21, r23_22, r23_23, r23_26, r23_27, r23_28, r23_31, r23_32, r23_35, r23_36, r23_37, r23_38, r23_41, r23_42, r23_43, r23_46, r23_47, r23_48, r23_51, r23_54, r23_57, r23_60, r23_61, r23_64, r23_65, r23_66, r23_67, r23_70, r23_73, g, G, c2, c3', Nat.lt_irrefl, tb_vl_some, tb_vl_none, tb_wF_some, nI_add, pk_mul, e_sub, e_div, tb_nmod, e_dec, e_le, e_lt, e_eq, e_eq0, e_lt0, e_0le, e_0lt, e_le0, if_true, if_false, not_true_eq_false, not_false_eq_true, ite_true, ite_false, Nat.reduceAdd, Nat.reduceMul, Nat.reduceLeDiff, Nat.reduceLT, Nat.reduceEqDiff, Nat.reduceSub, ↓reduceIte, Nat.reduceDiv, Nat.reduceMod]
        exact hQ
      · have c3' : k ≤ j := by omega
        rw [if_neg (fun q => q.elim c1 (fun q => c3 q.2))] at hQ
        simp (disch := first | assumption | omega | exact tb_sm0 | exact tb_sm1 _ | exact tb_sm2 _ _ | exact tb_sm3 _ _ _ | exact tb_sm4 _ _ _ _ | exact Or.inl rfl | exact Or.inr rfl | fail) only [r23_0, r23_1, r23_2, r23_3, r23_4, r23_7, r23_8, r23_9, r23_10, r23_12, r23_13, r23_16, r23_17, r23_20, r23_21, r23_22, r23_23, r23_26, r23_27, r23_28, r23_31, r23_32, r23_35, r23_36, r23_37, r23_38, r23_41, r23_42, r23_43, r23_46, r23_47, r23_48, r23_51, r23_54, r23_57, r23_60, r23_61, r23_64, r23_65, r23_66, r23_67, r23_70, r23_73, g, G, c2, c3', Nat.lt_irrefl, tb_vl_some, tb_vl_none, tb_wF_some, nI_add, pk_mul, e_sub, e_div, tb_nmod, e_dec, e_le, e_lt, e_eq, e_eq0, e_lt0, e_0le, e_0lt, e_le0, if_true, if_false, not_true_eq_false, not_false_eq_true, ite_true, ite_false, Nat.reduceAdd, Nat.reduceMul, Nat.reduceLeDiff, Nat.reduceLT, Nat.reduceEqDiff, Nat.reduceSub, ↓reduceIte, Nat.reduceDiv, Nat.reduceMod]
        exact hQ
    · rw [if_neg (fun q => q.elim c1 (fun q => c2 q.1))] at hQ
      simp (disch := first | assumption | omega | exact tb_sm0 | exact tb_sm1 _ | exact tb_sm2 _ _ | exact tb_sm3 _ _ _ | exact tb_sm4 _ _ _ _ | exact Or.inl rfl | exact Or.inr rfl | fail) only [r23_0, r23_1, r23_2, r23_3, r23_4, r23_7, r23_8, r23_9, r23_10, r23_12, r23_13, r23_16, r23_17, r23_20, r23_21, r23_22, r23_23, r23_26, r23_27, r23_28, r23_31, r23_32, r23_35, r23_36, r23_37, r23_38, r23_41, r23_42, r23_43, r23_46, r23_47, r23_48, r23_51, r23_54, r23_57, r23_60, r23_61, r23_64, r23_65, r23_66, r23_67, r23_70, r23_73, g, G, c1, c2, tb_vl_some, tb_vl_none, tb_wF_some, nI_add, pk_mul, e_sub, e_div, tb_nmod, e_dec, e_le, e_lt, e_eq, e_eq0, e_lt0, e_0le, e_0lt, e_le0, if_true, if_false, not_true_eq_false, not_false_eq_true, ite_true, ite_false, Nat.reduceAdd, Nat.reduceMul, Nat.reduceLeDiff, Nat.reduceLT, Nat.reduceEqDiff, Nat.reduceSub, ↓reduceIte, Nat.reduceDiv, Nat.reduceMod]
      exact hQ
theorem c_sort_o {k : Nat} {y z : Value} (hR : tb_Rg h a s F) (hI : ∀ k, k < 4 → s (5 + k) < 2 ^ 31) (hk : k < 4) (hQ : ∀ h' y' z', tb_Rg h' a s (upd F (sp_rank s k) (nI k)) → (∀ q, q ≠ a + 3 → h' q = h q) → tb_wp E d 23 2 [.ref a, .int (nI (k + 1)), y', z'] [] h' nx 0 0 Q) :
    tb_wp E d 23 2 [.ref a, .int (nI k), y, z] [] h nx 0 0 Q := by
  have hk4 : ¬ 4 ≤ k := by omega
  have g := hR.g
  simp (disch := first | assumption | omega | exact tb_sm0 | exact tb_sm1 _ | exact tb_sm2 _ _ | exact tb_sm3 _ _ _ | exact tb_sm4 _ _ _ _ | exact Or.inl rfl | exact Or.inr rfl | fail) only [r23_2, r23_3, r23_4, hk4, nI_add, pk_mul, e_sub, e_div, tb_nmod, e_dec, e_le, e_lt, e_eq, e_eq0, e_lt0, e_0le, e_0lt, e_le0, if_true, if_false, not_true_eq_false, not_false_eq_true, ite_true, ite_false, Nat.reduceAdd, Nat.reduceMul, Nat.reduceLeDiff, Nat.reduceLT, Nat.reduceEqDiff, Nat.reduceSub, ↓reduceIte, Nat.reduceDiv, Nat.reduceMod]
  simp (disch := first | assumption | omega | exact tb_sm0 | exact tb_sm1 _ | exact tb_sm2 _ _ | exact tb_sm3 _ _ _ | exact tb_sm4 _ _ _ _ | exact Or.inl rfl | exact Or.inr rfl | fail) only [r23_0, r23_1, r23_3, r23_4, r23_7, r23_8, r23_9, r23_10, r23_12, r23_13, r23_16, r23_17, r23_20, r23_21, r23_22, r23_23, r23_26, r23_27, r23_28, r23_31, r23_32, r23_35, r23_36, r23_37, r23_38, r23_41, r23_42, r23_43, r23_46, r23_47, r23_48, r23_51, r23_54, r23_57, r23_60, r23_61, r23_64, r23_65, r23_66, r23_67, r23_70, r23_73]
  refine c_sort_i hR hI hk (by decide) ?_
  refine c_sort_i hR hI hk (by decide) ?_
  refine c_sort_i hR hI hk (by decide) ?_
  refine c_sort_i hR hI hk (by decide) ?_
  rw [show 0 + sp_lt s 0 k + sp_lt s (0 + 1) k + sp_lt s (0 + 1 + 1) k + sp_lt s (0 + 1 + 1 + 1) k = sp_rank s k by unfold sp_rank; rw [Nat.zero_add]]
  simp (disch := first | assumption | omega | exact tb_sm0 | exact tb_sm1 _ | exact tb_sm2 _ _ | exact tb_sm3 _ _ _ | exact tb_sm4 _ _ _ _ | exact Or.inl rfl | exact Or.inr rfl | fail) only [r23_0, r23_1, r23_3, r23_4, r23_7, r23_8, r23_9, r23_10, r23_11, r23_12, r23_13, r23_16, r23_17, r23_20, r23_21, r23_22, r23_23, r23_26, r23_27, r23_28, r23_31, r23_32, r23_35, r23_36, r23_37, r23_38, r23_41, r23_42, r23_43, r23_46, r23_47, r23_48, r23_51, r23_54, r23_57, r23_60, r23_61, r23_64, r23_65, r23_66, r23_67, r23_70, r23_73, g, tb_vl_some, tb_vl_none, tb_wF_some, nI_add, pk_mul, e_sub, e_div, tb_nmod, e_dec, e_le, e_lt, e_eq, e_eq0, e_lt0, e_0le, e_0lt, e_le0, if_true, if_false, not_true_eq_false, not_false_eq_true, ite_true, ite_false, Nat.reduceAdd, Nat.reduceMul, Nat.reduceLeDiff, Nat.reduceLT, Nat.reduceEqDiff, Nat.reduceSub, ↓reduceIte, Nat.reduceDiv, Nat.reduceMod]
  refine hR.2.2.2.st (sp_rank_lt s hk) (by decide) (fun h2 hA2 hF2 => ?_)
  try simp (disch := first | assumption | omega | exact tb_sm0 | exact tb_sm1 _ | exact tb_sm2 _ _ | exact tb_sm3 _ _ _ | exact tb_sm4 _ _ _ _ | exact Or.inl rfl | exact Or.inr rfl | fail) only [r23_0, r23_1, r23_3, r23_4, r23_7, r23_8, r23_9, r23_10, r23_11, r23_12, r23_13, r23_16, r23_17, r23_20, r23_21, r23_22, r23_23, r23_26, r23_27, r23_28, r23_31, r23_32, r23_35, r23_36, r23_37, r23_38, r23_41, r23_42, r23_43, r23_46, r23_47, r23_48, r23_51, r23_54, r23_57, r23_60, r23_61, r23_64, r23_65, r23_66, r23_67, r23_70, r23_73, nI_add, pk_mul, e_sub, e_div, tb_nmod, e_dec, e_le, e_lt, e_eq, e_eq0, e_lt0, e_0le, e_0lt, e_le0, if_true, if_false, not_true_eq_false, not_false_eq_true, ite_true, ite_false, Nat.reduceAdd, Nat.reduceMul, Nat.reduceLeDiff, Nat.reduceLT, Nat.reduceEqDiff, Nat.reduceSub, ↓reduceIte, Nat.reduceDiv, Nat.reduceMod]
  refine hQ h2 _ _ ⟨(hF2 a (by omega)).trans hR.1, hR.2.1.to (hF2 _ (by omega)) (fun _ _ => rfl), hR.2.2.1.to (hF2 _ (by omega)) (fun _ _ => rfl), hA2⟩ hF2
theorem c_sortKinds (hR : tb_Rg h a s F) (hI : ∀ k, k < 4 → s (5 + k) < 2 ^ 31) (hQ : ∀ h', tb_Ru h' a s → (∀ q, q ≠ a + 3 → h' q = h q) → Q none h' nx) :
    tb_wp E d 23 0 [.ref a, .long 0, .long 0, .long 0] [] h nx 0 0 Q := by
  simp (disch := first | assumption | omega | exact tb_sm0 | exact tb_sm1 _ | exact tb_sm2 _ _ | exact tb_sm3 _ _ _ | exact tb_sm4 _ _ _ _ | exact Or.inl rfl | exact Or.inr rfl | fail) only [r23_0, r23_1]
  refine c_sort_o hR hI (by decide) (fun h1 y1 z1 hR1 hF1 => ?_)
  refine c_sort_o hR1 hI (by decide) (fun h2 y2 z2 hR2 hF2 => ?_)
  refine c_sort_o hR2 hI (by decide) (fun h3 y3 z3 hR3 hF3 => ?_)
  refine c_sort_o hR3 hI (by decide) (fun h4 y4 z4 hR4 hF4 => ?_)
  simp (disch := first | assumption | omega | exact tb_sm0 | exact tb_sm1 _ | exact tb_sm2 _ _ | exact tb_sm3 _ _ _ | exact tb_sm4 _ _ _ _ | exact Or.inl rfl | exact Or.inr rfl | fail) only [r23_0, r23_1, r23_2, r23_3, r23_4, r23_7, r23_8, r23_9, r23_10, r23_11, r23_12, r23_13, r23_16, r23_17, r23_20, r23_21, r23_22, r23_23, r23_26, r23_27, r23_28, r23_31, r23_32, r23_35, r23_36, r23_37, r23_38, r23_41, r23_42, r23_43, r23_46, r23_47, r23_48, r23_51, r23_54, r23_57, r23_60, r23_61, r23_64, r23_65, r23_66, r23_67, r23_70, r23_73, nI_add, pk_mul, e_sub, e_div, tb_nmod, e_dec, e_le, e_lt, e_eq, e_eq0, e_lt0, e_0le, e_0lt, e_le0, if_true, if_false, not_true_eq_false, not_false_eq_true, ite_true, ite_false, Nat.reduceAdd, Nat.reduceMul, Nat.reduceLeDiff, Nat.reduceLT, Nat.reduceEqDiff, Nat.reduceSub, ↓reduceIte, Nat.reduceDiv, Nat.reduceMod]
  refine hQ h4 ⟨hR4.1, hR4.2.1, hR4.2.2.1, hR4.2.2.2.to rfl (fun t ht => ?_)⟩ (fun q hq => by rw [hF4 q hq, hF3 q hq, hF2 q hq, hF1 q hq])
  unfold upd sp_kd
  by_cases e3 : sp_rank s 3 = t
  · rw [if_pos e3, if_pos e3.symm]
  · rw [if_neg e3, if_neg (fun q => e3 q.symm)]
    by_cases e2 : sp_rank s 2 = t
    · rw [if_pos e2, if_pos e2.symm]
    · rw [if_neg e2, if_neg (fun q => e2 q.symm)]
      by_cases e1 : sp_rank s 1 = t
      · rw [if_pos e1, if_pos e1.symm]
      · rw [if_neg e1, if_neg (fun q => e1 q.symm)]
        have e0 : sp_rank s 0 = t := by
          rcases sp_rank_all s ht with q | q | q | q
          · exact q
          · exact absurd q e1
          · exact absurd q e2
          · exact absurd q e3
        rw [if_pos e0.symm]
theorem c_changeGripOf {k v : Nat} (hR : tb_Ru h a s) (hI : ∀ k, k < 4 → s (5 + k) < 2 ^ 31) (hk : k < 4) (hv : v < 2 ^ 31) (hd : 1 ≤ d) (hQ : ∀ h', tb_Ru h' a (va_up s (5 + k) v) → (∀ q, q < a ∨ a + 4 ≤ q → h' q = h q) → Q none h' nx) :
    tb_wp E d 22 0 [.ref a, .int (nI k), .int (nI v)] [] h nx 0 0 Q := by
  have g := hR.g
  simp (disch := first | assumption | omega | exact tb_sm0 | exact tb_sm1 _ | exact tb_sm2 _ _ | exact tb_sm3 _ _ _ | exact tb_sm4 _ _ _ _ | exact Or.inl rfl | exact Or.inr rfl | fail) only [r22_0, r22_1, r22_4, r22_5, r22_6, r22_7, r22_8, r22_11, g, tb_vl_some, tb_vl_none, tb_wF_some]
  refine hR.2.1.st hk (by decide) (fun h2 hA2 hF2 => ?_)
  have hO : tb_isO h2 a 3 := ⟨_, (hF2 a (by omega)).trans hR.1⟩
  simp (disch := first | assumption | omega | exact tb_sm0 | exact tb_sm1 _ | exact tb_sm2 _ _ | exact tb_sm3 _ _ _ | exact tb_sm4 _ _ _ _ | exact Or.inl rfl | exact Or.inr rfl | fail) only [r22_0, r22_1, r22_4, r22_5, r22_6, r22_7, r22_8, r22_11]
  refine c_sortKinds (s := va_up s (5 + k) v) (F := fun t => nI (sp_kd s t)) ⟨(hF2 a (by omega)).trans hR.1, hA2.to rfl (fun j hj => ?_), hR.2.2.1.to (hF2 _ (by omega)) (fun j hj => by rw [va_up_n (by omega)]), hR.2.2.2.to (hF2 _ (by omega)) (fun _ _ => rfl)⟩ (fun j hj => ?_) (fun h3 hR3 hF3 => ?_)
  · unfold upd va_up
    by_cases c : j = k
    · rw [if_pos c, if_pos (by omega)]
    · rw [if_neg c, if_neg (by omega)]
  · unfold va_up
    split
    · exact hv
    · exact hI j hj
  · try simp (disch := first | assumption | omega | exact tb_sm0 | exact tb_sm1 _ | exact tb_sm2 _ _ | exact tb_sm3 _ _ _ | exact tb_sm4 _ _ _ _ | exact Or.inl rfl | exact Or.inr rfl | fail) only [r22_0, r22_1, r22_4, r22_5, r22_6, r22_7, r22_8, r22_11, tb_vl_some, tb_vl_none, tb_wF_some]
    exact hQ h3 hR3 (fun q hq => by rw [hF3 q (by omega), hF2 q (by omega)])
end C5
