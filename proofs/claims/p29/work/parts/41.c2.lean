/-! THE CLASS: sums of a board, and one tick of it -/
theorem tb_Bq.to {h : tb_heap} {b i : Nat} {s s' mv mv' : Nat → Nat} (hB : tb_Bq h b s mv i) (h1 : s (13 + i) = s' (13 + i)) (h2 : s (18 + i) = s' (18 + i)) (h3 : s (23 + i) = s' (23 + i)) (h4 : ∀ j, j < 32 → s (48 + 32 * i + j) = s' (48 + 32 * i + j)) (h5 : ∀ j, j < 4 → s (28 + 4 * i + j) = s' (28 + 4 * i + j)) (h6 : ∀ j, j < 32 → mv j = mv' j) : tb_Bq h b s' mv' i := by
  obtain ⟨a1, a2, a3, a4⟩ := hB
  refine ⟨by rw [← h1, ← h2, ← h3]; exact a1, a2.to rfl (fun j hj => by rw [h4 j hj]), a3.to rfl (fun j hj => by rw [h6 j hj]), a4.to rfl (fun j hj => by rw [h5 j hj])⟩
theorem tb_Bq.fr {h h' : tb_heap} {b i : Nat} {s mv : Nat → Nat} (hB : tb_Bq h b s mv i) (hF : ∀ q, b ≤ q → q < b + 4 → h' q = h q) : tb_Bq h' b s mv i := by
  obtain ⟨a1, a2, a3, a4⟩ := hB
  exact ⟨(hF b (by omega) (by omega)).trans a1, a2.to (hF _ (by omega) (by omega)) (fun _ _ => rfl), a3.to (hF _ (by omega) (by omega)) (fun _ _ => rfl), a4.to (hF _ (by omega) (by omega)) (fun _ _ => rfl)⟩
theorem tb_Ru.fr {h h' : tb_heap} {a : Nat} {s : Nat → Nat} (hR : tb_Ru h a s) (hF : ∀ q, a ≤ q → q < a + 4 → h' q = h q) : tb_Ru h' a s := by
  obtain ⟨a1, a2, a3, a4⟩ := hR
  exact ⟨(hF a (by omega) (by omega)).trans a1, a2.to (hF _ (by omega) (by omega)) (fun _ _ => rfl), a3.to (hF _ (by omega) (by omega)) (fun _ _ => rfl), a4.to (hF _ (by omega) (by omega)) (fun _ _ => rfl)⟩
theorem sp_rank_c {s s' : Nat → Nat} (hs : ∀ k, k < 4 → s (5 + k) = s' (5 + k)) {k : Nat} (hk : k < 4) : sp_rank s k = sp_rank s' k := by
  unfold sp_rank sp_lt
  rw [hs k hk, hs 0 (by decide), hs 1 (by decide), hs 2 (by decide), hs 3 (by decide)]
theorem sp_kd_c {s s' : Nat → Nat} (hs : ∀ k, k < 4 → s (5 + k) = s' (5 + k)) (t : Nat) : sp_kd s t = sp_kd s' t := by
  unfold sp_kd
  rw [sp_rank_c hs (show 3 < 4 by decide), sp_rank_c hs (show 2 < 4 by decide), sp_rank_c hs (show 1 < 4 by decide)]
theorem tb_Ru.to {h : tb_heap} {a : Nat} {s s' : Nat → Nat} (hR : tb_Ru h a s) (hs : ∀ j, 1 ≤ j → j < 9 → s j = s' j) : tb_Ru h a s' := by
  obtain ⟨a1, a2, a3, a4⟩ := hR
  refine ⟨a1, a2.to rfl (fun j hj => by rw [hs _ (by omega) (by omega)]), a3.to rfl (fun j hj => by rw [hs _ (by omega) (by omega)]), a4.to rfl (fun j hj => ?_)⟩
  rw [sp_kd_c (fun k hk => hs _ (by omega) (by omega))]
section C2
variable {E : tb_env} {d : Nat} {nx : Nat} {Q : Option Value → tb_heap → Nat → Prop} {b a i : Nat}
theorem tb_Bq.stH {h : tb_heap} {s mv : Nat → Nat} (hB : tb_Bq h b s mv i) (hi : i < 5) {j v : Nat} (hj : j < 32) {K : tb_heap → Prop} (hK : ∀ h', tb_Bq h' b (va_up s (48 + 32 * i + j) v) mv i → (∀ q, q ≠ b + 1 → h' q = h q) → K h') : tb_wF (tb_stv h 0 (b + 1) (nI j) (nI v)) K := by
  refine hB.2.1.st hj (by decide) (fun h' hA hF => hK h' ?_ hF)
  obtain ⟨a1, a2, a3, a4⟩ := hB
  refine ⟨?_, hA.to rfl (fun q hq => ?_), a3.to (hF _ (by omega)) (fun _ _ => rfl), a4.to (hF _ (by omega)) (fun q hq => ?_)⟩
  · rw [va_up_n (by omega), va_up_n (by omega), va_up_n (by omega)]
    exact (hF b (by omega)).trans a1
  · unfold upd va_up
    by_cases c : q = j
    · rw [if_pos c, if_pos (by omega)]
    · rw [if_neg c, if_neg (by omega)]
  · rw [va_up_n (by omega)]
theorem tb_Bq.stP {h : tb_heap} {s mv : Nat → Nat} (hB : tb_Bq h b s mv i) (hi : i < 5) {j v : Nat} (hj : j < 4) {K : tb_heap → Prop} (hK : ∀ h', tb_Bq h' b (va_up s (28 + 4 * i + j) v) mv i → (∀ q, q ≠ b + 3 → h' q = h q) → K h') : tb_wF (tb_stv h 0 (b + 3) (nI j) (nI v)) K := by
  refine hB.2.2.2.st hj (by decide) (fun h' hA hF => hK h' ?_ hF)
  obtain ⟨a1, a2, a3, a4⟩ := hB
  refine ⟨?_, a2.to (hF _ (by omega)) (fun q hq => ?_), a3.to (hF _ (by omega)) (fun _ _ => rfl), hA.to rfl (fun q hq => ?_)⟩
  · rw [va_up_n (by omega), va_up_n (by omega), va_up_n (by omega)]
    exact (hF b (by omega)).trans a1
  · rw [va_up_n (by omega)]
  · unfold upd va_up
    by_cases c : q = j
    · rw [if_pos c, if_pos (by omega)]
    · rw [if_neg c, if_neg (by omega)]
theorem tb_Bq.stM {h : tb_heap} {s mv : Nat → Nat} (hB : tb_Bq h b s mv i) {j v : Nat} (hj : j < 32) {K : tb_heap → Prop} (hK : ∀ h', tb_Bq h' b s (va_up mv j v) i → (∀ q, q ≠ b + 2 → h' q = h q) → K h') : tb_wF (tb_stv h 1 (b + 2) (nI j) (nI v)) K := by
  refine hB.2.2.1.st hj (by decide) (fun h' hA hF => hK h' ?_ hF)
  obtain ⟨a1, a2, a3, a4⟩ := hB
  refine ⟨(hF b (by omega)).trans a1, a2.to (hF _ (by omega)) (fun _ _ => rfl), hA.to rfl (fun q hq => ?_), a4.to (hF _ (by omega)) (fun _ _ => rfl)⟩
  unfold upd va_up
  dsimp only
  split <;> rfl
theorem tb_Bq.pf {h : tb_heap} {s mv : Nat → Nat} (hB : tb_Bq h b s mv i) (hi : i < 5) {k v x : Nat} (hk : (k = 3 ∧ x = 13) ∨ (k = 4 ∧ x = 18) ∨ (k = 5 ∧ x = 23)) {K : tb_heap → Prop} (hK : ∀ h', tb_Bq h' b (va_up s (x + i) v) mv i → (∀ q, q ≠ b → h' q = h q) → K h') : tb_wF (tb_pf h b 0 k (.int (nI v))) K := by
  refine tb_pf_ok hB.1 (by simp; omega) (fun h' h1 h2 => hK h' ?_ h2)
  obtain ⟨a1, a2, a3, a4⟩ := hB
  refine ⟨?_, a2.to (h2 _ (by omega)) (fun q hq => ?_), a3.to (h2 _ (by omega)) (fun _ _ => rfl), a4.to (h2 _ (by omega)) (fun q hq => ?_)⟩
  · rcases hk with ⟨rfl, rfl⟩ | ⟨rfl, rfl⟩ | ⟨rfl, rfl⟩
    · rw [va_up_s, va_up_n (by omega), va_up_n (by omega)]; exact h1
    · rw [va_up_s, va_up_n (by omega), va_up_n (by omega)]; exact h1
    · rw [va_up_s, va_up_n (by omega), va_up_n (by omega)]; exact h1
  · rw [va_up_n (by omega)]
  · rw [va_up_n (by omega)]
variable {h : tb_heap} {s mv : Nat → Nat}
theorem c_sumC_l (hB : tb_Bq h b s mv i) (n : Nat) : ∀ j, j + n = 32 → tb_wp E d 12 4 [.ref b, .int (nI (sp_acc (fun j => s (48 + 32 * i + j)) j)), .int (nI j)] [] h nx 0 0 Q = Q (some (.int (nI (sp_acc (fun j => s (48 + 32 * i + j)) 32)))) h nx := by
  have g := hB.1.g
  induction n with
  | zero =>
    intro j hj
    simp (disch := first | assumption | omega | exact tb_sm0 | exact tb_sm1 _ | exact tb_sm2 _ _ | exact tb_sm3 _ _ _ | exact tb_sm4 _ _ _ _ | exact Or.inl rfl | exact Or.inr rfl | fail) only [r12_4, r12_5, r12_7, nI_add, pk_mul, e_sub, e_div, tb_nmod, e_dec, e_le, e_lt, e_eq, e_eq0, e_lt0, e_0le, e_0lt, e_le0, if_true, if_false, not_true_eq_false, not_false_eq_true, ite_true, ite_false, Nat.reduceAdd, Nat.reduceMul, Nat.reduceLeDiff, Nat.reduceLT, Nat.reduceEqDiff, Nat.reduceSub, ↓reduceIte, Nat.reduceDiv, Nat.reduceMod]
    rw [if_pos (by omega), show j = 32 by omega]
    simp (disch := first | assumption | omega | exact tb_sm0 | exact tb_sm1 _ | exact tb_sm2 _ _ | exact tb_sm3 _ _ _ | exact tb_sm4 _ _ _ _ | exact Or.inl rfl | exact Or.inr rfl | fail) only [r12_0, r12_1, r12_2, r12_3, r12_5, r12_7, r12_10, r12_11, r12_12, r12_15, r12_16, r12_17, r12_18, r12_19, r12_22, r12_25, r12_26]
  | succ n ih =>
    intro j hj
    simp (disch := first | assumption | omega | exact tb_sm0 | exact tb_sm1 _ | exact tb_sm2 _ _ | exact tb_sm3 _ _ _ | exact tb_sm4 _ _ _ _ | exact Or.inl rfl | exact Or.inr rfl | fail) only [r12_4, r12_5, r12_7, nI_add, pk_mul, e_sub, e_div, tb_nmod, e_dec, e_le, e_lt, e_eq, e_eq0, e_lt0, e_0le, e_0lt, e_le0, if_true, if_false, not_true_eq_false, not_false_eq_true, ite_true, ite_false, Nat.reduceAdd, Nat.reduceMul, Nat.reduceLeDiff, Nat.reduceLT, Nat.reduceEqDiff, Nat.reduceSub, ↓reduceIte, Nat.reduceDiv, Nat.reduceMod]
    rw [if_neg (by omega)]
    simp (disch := first | assumption | omega | exact tb_sm0 | exact tb_sm1 _ | exact tb_sm2 _ _ | exact tb_sm3 _ _ _ | exact tb_sm4 _ _ _ _ | exact Or.inl rfl | exact Or.inr rfl | fail) only [r12_0, r12_1, r12_2, r12_3, r12_5, r12_7, r12_10, r12_11, r12_12, r12_15, r12_16, r12_17, r12_18, r12_19, r12_22, r12_25, r12_26, g, hB.H, tb_vl_some, tb_vl_none, tb_wF_some, nI_add, pk_mul, e_sub, e_div, tb_nmod, e_dec, e_le, e_lt, e_eq, e_eq0, e_lt0, e_0le, e_0lt, e_le0, if_true, if_false, not_true_eq_false, not_false_eq_true, ite_true, ite_false, Nat.reduceAdd, Nat.reduceMul, Nat.reduceLeDiff, Nat.reduceLT, Nat.reduceEqDiff, Nat.reduceSub, ↓reduceIte, Nat.reduceDiv, Nat.reduceMod]
    exact ih (j + 1) (by omega)
theorem sp_acc_all (s : Nat → Nat) (i : Nat) : sp_acc (fun j => s (48 + 32 * i + j)) 32 = sp_all s i := by
  simp only [sp_acc, sp_all, sp_on, Nat.add_assoc, Nat.reduceMul, Nat.reduceAdd, Nat.zero_add]
theorem c_grainsOnCells (hB : tb_Bq h b s mv i) : tb_wp E d 12 0 [.ref b, .long 0, .long 0] [] h nx 0 0 Q = Q (some (.int (nI (sp_all s i)))) h nx := by
  rw [← sp_acc_all]
  simp (disch := first | assumption | omega | exact tb_sm0 | exact tb_sm1 _ | exact tb_sm2 _ _ | exact tb_sm3 _ _ _ | exact tb_sm4 _ _ _ _ | exact Or.inl rfl | exact Or.inr rfl | fail) only [r12_0, r12_1, r12_2, r12_3, r12_5, r12_7, r12_10, r12_11, r12_12, r12_15, r12_16, r12_17, r12_18, r12_19, r12_22, r12_25, r12_26]
  exact c_sumC_l hB 32 0 (by omega)
theorem c_grainsInPan (hB : tb_Bq h b s mv i) : tb_wp E d 13 0 [.ref b, .long 0, .long 0] [] h nx 0 0 Q = Q (some (.int (nI (sp_pan s i)))) h nx := by
  have g := hB.1.g
  simp (disch := first | assumption | omega | exact tb_sm0 | exact tb_sm1 _ | exact tb_sm2 _ _ | exact tb_sm3 _ _ _ | exact tb_sm4 _ _ _ _ | exact Or.inl rfl | exact Or.inr rfl | fail) only [r13_0, r13_1, r13_2, r13_3, r13_4, r13_5, r13_6, r13_9, r13_10, r13_11, r13_14, r13_15, r13_16, r13_17, r13_18, r13_21, r13_24, r13_25, g, hB.P, tb_vl_some, tb_vl_none, tb_wF_some, nI_add, pk_mul, e_sub, e_div, tb_nmod, e_dec, e_le, e_lt, e_eq, e_eq0, e_lt0, e_0le, e_0lt, e_le0, if_true, if_false, not_true_eq_false, not_false_eq_true, ite_true, ite_false, Nat.reduceAdd, Nat.reduceMul, Nat.reduceLeDiff, Nat.reduceLT, Nat.reduceEqDiff, Nat.reduceSub, ↓reduceIte, Nat.reduceDiv, Nat.reduceMod, Nat.zero_add, Nat.add_zero]
  rfl
theorem c_lying_l (hB : tb_Bq h b s mv i) (hI : sp_I s) (hi : i < 5) (n : Nat) : ∀ j, j + n = 32 → tb_wp E d 14 4 [.ref b, .int (nI (sp_acc (fun j => if 0 < s (48 + 32 * i + j) then 1 else 0) j)), .int (nI j)] [] h nx 0 0 Q = Q (some (.int (nI (sp_heaps s i)))) h nx := by
  have g := hB.1.g
  induction n with
  | zero =>
    intro j hj
    simp (disch := first | assumption | omega | exact tb_sm0 | exact tb_sm1 _ | exact tb_sm2 _ _ | exact tb_sm3 _ _ _ | exact tb_sm4 _ _ _ _ | exact Or.inl rfl | exact Or.inr rfl | fail) only [r14_4, r14_5, r14_7, nI_add, pk_mul, e_sub, e_div, tb_nmod, e_dec, e_le, e_lt, e_eq, e_eq0, e_lt0, e_0le, e_0lt, e_le0, if_true, if_false, not_true_eq_false, not_false_eq_true, ite_true, ite_false, Nat.reduceAdd, Nat.reduceMul, Nat.reduceLeDiff, Nat.reduceLT, Nat.reduceEqDiff, Nat.reduceSub, ↓reduceIte, Nat.reduceDiv, Nat.reduceMod]
    rw [if_pos (by omega), show j = 32 by omega]
    simp (disch := first | assumption | omega | exact tb_sm0 | exact tb_sm1 _ | exact tb_sm2 _ _ | exact tb_sm3 _ _ _ | exact tb_sm4 _ _ _ _ | exact Or.inl rfl | exact Or.inr rfl | fail) only [r14_0, r14_1, r14_2, r14_3, r14_5, r14_7, r14_10, r14_11, r14_14, r14_15, r14_16, r14_19, r14_22, r14_25, r14_28, r14_29]
    rfl
  | succ n ih =>
    intro j hj
    simp (disch := first | assumption | omega | exact tb_sm0 | exact tb_sm1 _ | exact tb_sm2 _ _ | exact tb_sm3 _ _ _ | exact tb_sm4 _ _ _ _ | exact Or.inl rfl | exact Or.inr rfl | fail) only [r14_4, r14_5, r14_7, nI_add, pk_mul, e_sub, e_div, tb_nmod, e_dec, e_le, e_lt, e_eq, e_eq0, e_lt0, e_0le, e_0lt, e_le0, if_true, if_false, not_true_eq_false, not_false_eq_true, ite_true, ite_false, Nat.reduceAdd, Nat.reduceMul, Nat.reduceLeDiff, Nat.reduceLT, Nat.reduceEqDiff, Nat.reduceSub, ↓reduceIte, Nat.reduceDiv, Nat.reduceMod]
    rw [if_neg (by omega)]
    have hj := sp_hp_le hI hi (show j < 32 by omega)
    by_cases c : 0 < s (48 + 32 * i + j)
    · have c' : ¬ s (48 + 32 * i + j) = 0 := by omega
      simp (disch := first | assumption | omega | exact tb_sm0 | exact tb_sm1 _ | exact tb_sm2 _ _ | exact tb_sm3 _ _ _ | exact tb_sm4 _ _ _ _ | exact Or.inl rfl | exact Or.inr rfl | fail) only [r14_0, r14_1, r14_2, r14_3, r14_5, r14_7, r14_10, r14_11, r14_14, r14_15, r14_16, r14_19, r14_22, r14_25, r14_28, r14_29, g, hB.H, c', tb_vl_some, tb_vl_none, tb_wF_some, nI_add, pk_mul, e_sub, e_div, tb_nmod, e_dec, e_le, e_lt, e_eq, e_eq0, e_lt0, e_0le, e_0lt, e_le0, if_true, if_false, not_true_eq_false, not_false_eq_true, ite_true, ite_false, Nat.reduceAdd, Nat.reduceMul, Nat.reduceLeDiff, Nat.reduceLT, Nat.reduceEqDiff, Nat.reduceSub, ↓reduceIte, Nat.reduceDiv, Nat.reduceMod]
      have := ih (j + 1) (by omega)
      simp only [sp_acc, c, if_true] at this
      exact this
    · have c' : s (48 + 32 * i + j) = 0 := by omega
      simp (disch := first | assumption | omega | exact tb_sm0 | exact tb_sm1 _ | exact tb_sm2 _ _ | exact tb_sm3 _ _ _ | exact tb_sm4 _ _ _ _ | exact Or.inl rfl | exact Or.inr rfl | fail) only [r14_0, r14_1, r14_2, r14_3, r14_5, r14_7, r14_10, r14_11, r14_14, r14_15, r14_16, r14_19, r14_22, r14_25, r14_28, r14_29, g, hB.H, c', tb_vl_some, tb_vl_none, tb_wF_some, nI_add, pk_mul, e_sub, e_div, tb_nmod, e_dec, e_le, e_lt, e_eq, e_eq0, e_lt0, e_0le, e_0lt, e_le0, if_true, if_false, not_true_eq_false, not_false_eq_true, ite_true, ite_false, Nat.reduceAdd, Nat.reduceMul, Nat.reduceLeDiff, Nat.reduceLT, Nat.reduceEqDiff, Nat.reduceSub, ↓reduceIte, Nat.reduceDiv, Nat.reduceMod]
      have := ih (j + 1) (by omega)
      simp only [sp_acc, c, if_false] at this
      exact this
theorem c_heapsLying (hB : tb_Bq h b s mv i) (hI : sp_I s) (hi : i < 5) : tb_wp E d 14 0 [.ref b, .long 0, .long 0] [] h nx 0 0 Q = Q (some (.int (nI (sp_heaps s i)))) h nx := by
  simp (disch := first | assumption | omega | exact tb_sm0 | exact tb_sm1 _ | exact tb_sm2 _ _ | exact tb_sm3 _ _ _ | exact tb_sm4 _ _ _ _ | exact Or.inl rfl | exact Or.inr rfl | fail) only [r14_0, r14_1, r14_2, r14_3, r14_5, r14_7, r14_10, r14_11, r14_14, r14_15, r14_16, r14_19, r14_22, r14_25, r14_28, r14_29]
  exact c_lying_l hB hI hi 32 0 (by omega)
theorem c_moving_l (hB : tb_Bq h b s mv i) (hI : sp_I s) (hi : i < 5) (hm : ∀ j, j < 32 → mv j = s (208 + 32 * i + j)) (n : Nat) : ∀ j, j + n = 32 → tb_wp E d 15 4 [.ref b, .int (nI (sp_acc (fun j => if 0 < s (48 + 32 * i + j) then s (208 + 32 * i + j) else 0) j)), .int (nI j)] [] h nx 0 0 Q = Q (some (.int (nI (sp_mvh s i)))) h nx := by
  have g := hB.1.g
  induction n with
  | zero =>
    intro j hj
    simp (disch := first | assumption | omega | exact tb_sm0 | exact tb_sm1 _ | exact tb_sm2 _ _ | exact tb_sm3 _ _ _ | exact tb_sm4 _ _ _ _ | exact Or.inl rfl | exact Or.inr rfl | fail) only [r15_4, r15_5, r15_7, nI_add, pk_mul, e_sub, e_div, tb_nmod, e_dec, e_le, e_lt, e_eq, e_eq0, e_lt0, e_0le, e_0lt, e_le0, if_true, if_false, not_true_eq_false, not_false_eq_true, ite_true, ite_false, Nat.reduceAdd, Nat.reduceMul, Nat.reduceLeDiff, Nat.reduceLT, Nat.reduceEqDiff, Nat.reduceSub, ↓reduceIte, Nat.reduceDiv, Nat.reduceMod]
    rw [if_pos (by omega), show j = 32 by omega]
    simp (disch := first | assumption | omega | exact tb_sm0 | exact tb_sm1 _ | exact tb_sm2 _ _ | exact tb_sm3 _ _ _ | exact tb_sm4 _ _ _ _ | exact Or.inl rfl | exact Or.inr rfl | fail) only [r15_0, r15_1, r15_2, r15_3, r15_5, r15_7, r15_10, r15_11, r15_14, r15_15, r15_16, r15_19, r15_20, r15_23, r15_24, r15_25, r15_28, r15_31, r15_34, r15_37, r15_38]
    rfl
  | succ n ih =>
    intro j hj
    simp (disch := first | assumption | omega | exact tb_sm0 | exact tb_sm1 _ | exact tb_sm2 _ _ | exact tb_sm3 _ _ _ | exact tb_sm4 _ _ _ _ | exact Or.inl rfl | exact Or.inr rfl | fail) only [r15_4, r15_5, r15_7, nI_add, pk_mul, e_sub, e_div, tb_nmod, e_dec, e_le, e_lt, e_eq, e_eq0, e_lt0, e_0le, e_0lt, e_le0, if_true, if_false, not_true_eq_false, not_false_eq_true, ite_true, ite_false, Nat.reduceAdd, Nat.reduceMul, Nat.reduceLeDiff, Nat.reduceLT, Nat.reduceEqDiff, Nat.reduceSub, ↓reduceIte, Nat.reduceDiv, Nat.reduceMod]
    rw [if_neg (by omega)]
    have hh := sp_hp_le hI hi (show j < 32 by omega)
    have hmj := hm j (by omega)
    have i5 := hI.2.2.2.2 (32 * i + j) (by omega)
    rw [show 208 + (32 * i + j) = 208 + 32 * i + j by omega] at i5
    have := ih (j + 1) (by omega)
    by_cases c : 0 < s (48 + 32 * i + j)
    · have c' : ¬ s (48 + 32 * i + j) = 0 := by omega
      rcases (by omega : s (208 + 32 * i + j) = 0 ∨ s (208 + 32 * i + j) = 1) with e | e
      · rw [e] at hmj
        simp (disch := first | assumption | omega | exact tb_sm0 | exact tb_sm1 _ | exact tb_sm2 _ _ | exact tb_sm3 _ _ _ | exact tb_sm4 _ _ _ _ | exact Or.inl rfl | exact Or.inr rfl | fail) only [r15_0, r15_1, r15_2, r15_3, r15_5, r15_7, r15_10, r15_11, r15_14, r15_15, r15_16, r15_19, r15_20, r15_23, r15_24, r15_25, r15_28, r15_31, r15_34, r15_37, r15_38, g, hB.H, hB.M, hmj, c', tb_vl_some, tb_vl_none, tb_wF_some, nI_add, pk_mul, e_sub, e_div, tb_nmod, e_dec, e_le, e_lt, e_eq, e_eq0, e_lt0, e_0le, e_0lt, e_le0, if_true, if_false, not_true_eq_false, not_false_eq_true, ite_true, ite_false, Nat.reduceAdd, Nat.reduceMul, Nat.reduceLeDiff, Nat.reduceLT, Nat.reduceEqDiff, Nat.reduceSub, ↓reduceIte, Nat.reduceDiv, Nat.reduceMod]
        simp only [sp_acc, c, if_true, e, Nat.add_zero] at this
        exact this
      · rw [e] at hmj
        simp (disch := first | assumption | omega | exact tb_sm0 | exact tb_sm1 _ | exact tb_sm2 _ _ | exact tb_sm3 _ _ _ | exact tb_sm4 _ _ _ _ | exact Or.inl rfl | exact Or.inr rfl | fail) only [r15_0, r15_1, r15_2, r15_3, r15_5, r15_7, r15_10, r15_11, r15_14, r15_15, r15_16, r15_19, r15_20, r15_23, r15_24, r15_25, r15_28, r15_31, r15_34, r15_37, r15_38, g, hB.H, hB.M, hmj, c', tb_vl_some, tb_vl_none, tb_wF_some, nI_add, pk_mul, e_sub, e_div, tb_nmod, e_dec, e_le, e_lt, e_eq, e_eq0, e_lt0, e_0le, e_0lt, e_le0, if_true, if_false, not_true_eq_false, not_false_eq_true, ite_true, ite_false, Nat.reduceAdd, Nat.reduceMul, Nat.reduceLeDiff, Nat.reduceLT, Nat.reduceEqDiff, Nat.reduceSub, ↓reduceIte, Nat.reduceDiv, Nat.reduceMod]
        simp only [sp_acc, c, if_true, e] at this
        exact this
    · have c' : s (48 + 32 * i + j) = 0 := by omega
      simp (disch := first | assumption | omega | exact tb_sm0 | exact tb_sm1 _ | exact tb_sm2 _ _ | exact tb_sm3 _ _ _ | exact tb_sm4 _ _ _ _ | exact Or.inl rfl | exact Or.inr rfl | fail) only [r15_0, r15_1, r15_2, r15_3, r15_5, r15_7, r15_10, r15_11, r15_14, r15_15, r15_16, r15_19, r15_20, r15_23, r15_24, r15_25, r15_28, r15_31, r15_34, r15_37, r15_38, g, hB.H, c', tb_vl_some, tb_vl_none, tb_wF_some, nI_add, pk_mul, e_sub, e_div, tb_nmod, e_dec, e_le, e_lt, e_eq, e_eq0, e_lt0, e_0le, e_0lt, e_le0, if_true, if_false, not_true_eq_false, not_false_eq_true, ite_true, ite_false, Nat.reduceAdd, Nat.reduceMul, Nat.reduceLeDiff, Nat.reduceLT, Nat.reduceEqDiff, Nat.reduceSub, ↓reduceIte, Nat.reduceDiv, Nat.reduceMod]
      simp only [sp_acc, c, if_false, Nat.add_zero] at this
      exact this
theorem c_heapsMoving (hB : tb_Bq h b s mv i) (hI : sp_I s) (hi : i < 5) (hm : ∀ j, j < 32 → mv j = s (208 + 32 * i + j)) : tb_wp E d 15 0 [.ref b, .long 0, .long 0] [] h nx 0 0 Q = Q (some (.int (nI (sp_mvh s i)))) h nx := by
  simp (disch := first | assumption | omega | exact tb_sm0 | exact tb_sm1 _ | exact tb_sm2 _ _ | exact tb_sm3 _ _ _ | exact tb_sm4 _ _ _ _ | exact Or.inl rfl | exact Or.inr rfl | fail) only [r15_0, r15_1, r15_2, r15_3, r15_5, r15_7, r15_10, r15_11, r15_14, r15_15, r15_16, r15_19, r15_20, r15_23, r15_24, r15_25, r15_28, r15_31, r15_34, r15_37, r15_38]
  exact c_moving_l hB hI hi hm 32 0 (by omega)
theorem c_least_k {c k : Nat} (hB : tb_Bq h b s mv i) (hR : tb_Ru h a s) (hI : sp_I s) (hi : i < 5) (hm : ∀ j, j < 32 → mv j = s (208 + 32 * i + j)) (hc : c < 8) (hk : k < 4) (hd : 3 ≤ d) (hQ : tb_wp E d 7 29 [.ref b, .ref a, .int (nI (sp_lst s i (4 * c + (k + 1)))), .int (nI c), .int (nI (if 0 < sp_room s i c then 1 else 0)), .int (nI (k + 1))] [] h nx 0 0 Q) :
    tb_wp E d 7 29 [.ref b, .ref a, .int (nI (sp_lst s i (4 * c + k))), .int (nI c), .int (nI (if 0 < sp_room s i c then 1 else 0)), .int (nI k)] [] h nx 0 0 Q := by
  have hO := hB.1.O
  have g := hB.1.g
  have e1 : sp_lst s i (4 * c + (k + 1)) = if 0 < s (48 + 32 * i + 4 * c + k) ∧ 0 < sp_room s i c ∧ sp_need s i c k < sp_lst s i (4 * c + k) then sp_need s i c k else sp_lst s i (4 * c + k) := by
    rw [show 4 * c + (k + 1) = (4 * c + k) + 1 by omega, sp_lst, show (4 * c + k) / 4 = c by omega, show (4 * c + k) % 4 = k by omega, show 48 + 32 * i + (4 * c + k) = 48 + 32 * i + 4 * c + k by omega]
  have e : 48 + 32 * i + (c * 4 + k) = 48 + 32 * i + 4 * c + k := by omega
  have hh := sp_heap_le hI hi hc hk
  have hn := sp_need_le hI hi hc hk
  have hl := sp_lst_le s i (4 * c + k)
  have w : mv (c * 4 + k) = s (208 + 32 * i + 4 * c + k) := by rw [hm _ (by omega)]; congr 1; omega
  have an := fun {Q'} => c_angleNeeded (E := E) (d := d - 1) (nx := nx) (Q := Q') hB hR hI hi hc hk w (show 1 ≤ d - 1 by omega)
  rw [e1] at hQ
  have hk4 : ¬ 4 ≤ k := by omega
  generalize hl0 : sp_lst s i (4 * c + k) = l0 at *
  simp (disch := first | assumption | omega | exact tb_sm0 | exact tb_sm1 _ | exact tb_sm2 _ _ | exact tb_sm3 _ _ _ | exact tb_sm4 _ _ _ _ | exact Or.inl rfl | exact Or.inr rfl | fail) only [r7_29, r7_31, r7_32, hk4, nI_add, pk_mul, e_sub, e_div, tb_nmod, e_dec, e_le, e_lt, e_eq, e_eq0, e_lt0, e_0le, e_0lt, e_le0, if_true, if_false, not_true_eq_false, not_false_eq_true, ite_true, ite_false, Nat.reduceAdd, Nat.reduceMul, Nat.reduceLeDiff, Nat.reduceLT, Nat.reduceEqDiff, Nat.reduceSub, ↓reduceIte, Nat.reduceDiv, Nat.reduceMod]
  by_cases c1 : 0 < sp_room s i c
  · have c1' : ¬ sp_room s i c = 0 := by omega
    rw [if_pos c1] at hQ ⊢
    by_cases c2 : 0 < s (48 + 32 * i + 4 * c + k)
    · have c2' : ¬ s (48 + 32 * i + 4 * c + k) = 0 := by omega
      by_cases c3 : sp_need s i c k < l0
      · rw [if_pos ⟨c2, c1, c3⟩] at hQ
        simp (disch := first | assumption | omega | exact tb_sm0 | exact tb_sm1 _ | exact tb_sm2 _ _ | exact tb_sm3 _ _ _ | exact tb_sm4 _ _ _ _ | exact Or.inl rfl | exact Or.inr rfl | fail) only [r7_0, r7_2, r7_3, r7_4, r7_5, r7_6, r7_8, r7_11, r7_12, r7_13, r7_16, r7_19, r7_20, r7_23, r7_24, r7_26, r7_27, r7_31, r7_32, r7_35, r7_37, r7_40, r7_41, r7_44, r7_45, r7_47, r7_50, r7_51, r7_54, r7_55, r7_56, r7_57, r7_59, r7_60, r7_63, r7_66, r7_67, r7_70, r7_73, r7_76, r7_79, r7_80, g, hB.H, c_indexOf, an, e, c2', c3, tb_vl_some, tb_vl_none, tb_wF_some, nI_add, pk_mul, e_sub, e_div, tb_nmod, e_dec, e_le, e_lt, e_eq, e_eq0, e_lt0, e_0le, e_0lt, e_le0, if_true, if_false, not_true_eq_false, not_false_eq_true, ite_true, ite_false, Nat.reduceAdd, Nat.reduceMul, Nat.reduceLeDiff, Nat.reduceLT, Nat.reduceEqDiff, Nat.reduceSub, ↓reduceIte, Nat.reduceDiv, Nat.reduceMod]
        exact hQ
      · rw [if_neg (fun q => c3 q.2.2)] at hQ
        simp (disch := first | assumption | omega | exact tb_sm0 | exact tb_sm1 _ | exact tb_sm2 _ _ | exact tb_sm3 _ _ _ | exact tb_sm4 _ _ _ _ | exact Or.inl rfl | exact Or.inr rfl | fail) only [r7_0, r7_2, r7_3, r7_4, r7_5, r7_6, r7_8, r7_11, r7_12, r7_13, r7_16, r7_19, r7_20, r7_23, r7_24, r7_26, r7_27, r7_31, r7_32, r7_35, r7_37, r7_40, r7_41, r7_44, r7_45, r7_47, r7_50, r7_51, r7_54, r7_55, r7_56, r7_57, r7_59, r7_60, r7_63, r7_66, r7_67, r7_70, r7_73, r7_76, r7_79, r7_80, g, hB.H, c_indexOf, an, e, c2', c3, tb_vl_some, tb_vl_none, tb_wF_some, nI_add, pk_mul, e_sub, e_div, tb_nmod, e_dec, e_le, e_lt, e_eq, e_eq0, e_lt0, e_0le, e_0lt, e_le0, if_true, if_false, not_true_eq_false, not_false_eq_true, ite_true, ite_false, Nat.reduceAdd, Nat.reduceMul, Nat.reduceLeDiff, Nat.reduceLT, Nat.reduceEqDiff, Nat.reduceSub, ↓reduceIte, Nat.reduceDiv, Nat.reduceMod]
        exact hQ
    · have c2' : s (48 + 32 * i + 4 * c + k) = 0 := by omega
      rw [if_neg (fun q => c2 q.1)] at hQ
      simp (disch := first | assumption | omega | exact tb_sm0 | exact tb_sm1 _ | exact tb_sm2 _ _ | exact tb_sm3 _ _ _ | exact tb_sm4 _ _ _ _ | exact Or.inl rfl | exact Or.inr rfl | fail) only [r7_0, r7_2, r7_3, r7_4, r7_5, r7_6, r7_8, r7_11, r7_12, r7_13, r7_16, r7_19, r7_20, r7_23, r7_24, r7_26, r7_27, r7_31, r7_32, r7_35, r7_37, r7_40, r7_41, r7_44, r7_45, r7_47, r7_50, r7_51, r7_54, r7_55, r7_56, r7_57, r7_59, r7_60, r7_63, r7_66, r7_67, r7_70, r7_73, r7_76, r7_79, r7_80, g, hB.H, c_indexOf, e, c2', tb_vl_some, tb_vl_none, tb_wF_some, nI_add, pk_mul, e_sub, e_div, tb_nmod, e_dec, e_le, e_lt, e_eq, e_eq0, e_lt0, e_0le, e_0lt, e_le0, if_true, if_false, not_true_eq_false, not_false_eq_true, ite_true, ite_false, Nat.reduceAdd, Nat.reduceMul, Nat.reduceLeDiff, Nat.reduceLT, Nat.reduceEqDiff, Nat.reduceSub, ↓reduceIte, Nat.reduceDiv, Nat.reduceMod]
      exact hQ
  · rw [if_neg (fun q => c1 q.2.1)] at hQ
    rw [if_neg c1] at hQ ⊢
    simp (disch := first | assumption | omega | exact tb_sm0 | exact tb_sm1 _ | exact tb_sm2 _ _ | exact tb_sm3 _ _ _ | exact tb_sm4 _ _ _ _ | exact Or.inl rfl | exact Or.inr rfl | fail) only [r7_0, r7_2, r7_3, r7_4, r7_5, r7_6, r7_8, r7_11, r7_12, r7_13, r7_16, r7_19, r7_20, r7_23, r7_24, r7_26, r7_27, r7_31, r7_32, r7_35, r7_37, r7_40, r7_41, r7_44, r7_45, r7_47, r7_50, r7_51, r7_54, r7_55, r7_56, r7_57, r7_59, r7_60, r7_63, r7_66, r7_67, r7_70, r7_73, r7_76, r7_79, r7_80, tb_vl_some, tb_vl_none, tb_wF_some, nI_add, pk_mul, e_sub, e_div, tb_nmod, e_dec, e_le, e_lt, e_eq, e_eq0, e_lt0, e_0le, e_0lt, e_le0, if_true, if_false, not_true_eq_false, not_false_eq_true, ite_true, ite_false, Nat.reduceAdd, Nat.reduceMul, Nat.reduceLeDiff, Nat.reduceLT, Nat.reduceEqDiff, Nat.reduceSub, ↓reduceIte, Nat.reduceDiv, Nat.reduceMod]
    exact hQ
theorem c_least_c (hB : tb_Bq h b s mv i) (hR : tb_Ru h a s) (hI : sp_I s) (hi : i < 5) (hm : ∀ j, j < 32 → mv j = s (208 + 32 * i + j)) (hd : 3 ≤ d) (hQ : Q (some (.int (nI (sp_lst s i 32)))) h nx) (n : Nat) : ∀ (c : Nat) (y z : Value), c + n = 8 → tb_wp E d 7 5 [.ref b, .ref a, .int (nI (sp_lst s i (4 * c))), .int (nI c), y, z] [] h nx 0 0 Q := by
  induction n with
  | zero =>
    intro c y z hc
    have ec : c = 8 := by omega
    subst ec
    simp (disch := first | assumption | omega | exact tb_sm0 | exact tb_sm1 _ | exact tb_sm2 _ _ | exact tb_sm3 _ _ _ | exact tb_sm4 _ _ _ _ | exact Or.inl rfl | exact Or.inr rfl | fail) only [r7_0, r7_2, r7_3, r7_4, r7_5, r7_6, r7_8, r7_11, r7_12, r7_13, r7_16, r7_19, r7_20, r7_23, r7_24, r7_26, r7_27, r7_29, r7_31, r7_32, r7_35, r7_37, r7_40, r7_41, r7_44, r7_45, r7_47, r7_50, r7_51, r7_54, r7_55, r7_56, r7_57, r7_59, r7_60, r7_63, r7_66, r7_67, r7_70, r7_73, r7_76, r7_79, r7_80, nI_add, pk_mul, e_sub, e_div, tb_nmod, e_dec, e_le, e_lt, e_eq, e_eq0, e_lt0, e_0le, e_0lt, e_le0, if_true, if_false, not_true_eq_false, not_false_eq_true, ite_true, ite_false, Nat.reduceAdd, Nat.reduceMul, Nat.reduceLeDiff, Nat.reduceLT, Nat.reduceEqDiff, Nat.reduceSub, ↓reduceIte, Nat.reduceDiv, Nat.reduceMod]
    exact hQ
  | succ n ih =>
    intro c y z hn
    have hO := hB.1.O
    have hc : c < 8 := by omega
    have hc8 : ¬ 8 ≤ c := by omega
    have hr := sp_room_le s i c
    have rm := fun {Q'} => c_roomBelow (E := E) (d := d - 1) (nx := nx) (Q := Q') hB hI hi hc (show 1 ≤ d - 1 by omega)
    have tail : tb_wp E d 7 29 [.ref b, .ref a, .int (nI (sp_lst s i (4 * c + 0))), .int (nI c), .int (nI (if 0 < sp_room s i c then 1 else 0)), .int (nI 0)] [] h nx 0 0 Q := by
      refine c_least_k hB hR hI hi hm hc (by decide) hd ?_
      refine c_least_k hB hR hI hi hm hc (by decide) hd ?_
      refine c_least_k hB hR hI hi hm hc (by decide) hd ?_
      refine c_least_k hB hR hI hi hm hc (by decide) hd ?_
      simp (disch := first | assumption | omega | exact tb_sm0 | exact tb_sm1 _ | exact tb_sm2 _ _ | exact tb_sm3 _ _ _ | exact tb_sm4 _ _ _ _ | exact Or.inl rfl | exact Or.inr rfl | fail) only [r7_0, r7_2, r7_3, r7_4, r7_6, r7_8, r7_11, r7_12, r7_13, r7_16, r7_19, r7_20, r7_23, r7_24, r7_26, r7_27, r7_29, r7_31, r7_32, r7_35, r7_37, r7_40, r7_41, r7_44, r7_45, r7_47, r7_50, r7_51, r7_54, r7_55, r7_56, r7_57, r7_59, r7_60, r7_63, r7_66, r7_67, r7_70, r7_73, r7_76, r7_79, r7_80, nI_add, pk_mul, e_sub, e_div, tb_nmod, e_dec, e_le, e_lt, e_eq, e_eq0, e_lt0, e_0le, e_0lt, e_le0, if_true, if_false, not_true_eq_false, not_false_eq_true, ite_true, ite_false, Nat.reduceAdd, Nat.reduceMul, Nat.reduceLeDiff, Nat.reduceLT, Nat.reduceEqDiff, Nat.reduceSub, ↓reduceIte, Nat.reduceDiv, Nat.reduceMod]
      exact ih (c + 1) _ _ (by omega)
    rw [Nat.add_zero] at tail
    simp (disch := first | assumption | omega | exact tb_sm0 | exact tb_sm1 _ | exact tb_sm2 _ _ | exact tb_sm3 _ _ _ | exact tb_sm4 _ _ _ _ | exact Or.inl rfl | exact Or.inr rfl | fail) only [r7_5, r7_6, r7_8, hc8, nI_add, pk_mul, e_sub, e_div, tb_nmod, e_dec, e_le, e_lt, e_eq, e_eq0, e_lt0, e_0le, e_0lt, e_le0, if_true, if_false, not_true_eq_false, not_false_eq_true, ite_true, ite_false, Nat.reduceAdd, Nat.reduceMul, Nat.reduceLeDiff, Nat.reduceLT, Nat.reduceEqDiff, Nat.reduceSub, ↓reduceIte, Nat.reduceDiv, Nat.reduceMod]
    by_cases c1 : 0 < sp_room s i c
    · have c1' : ¬ sp_room s i c = 0 := by omega
      rw [if_pos c1] at tail
      simp (disch := first | assumption | omega | exact tb_sm0 | exact tb_sm1 _ | exact tb_sm2 _ _ | exact tb_sm3 _ _ _ | exact tb_sm4 _ _ _ _ | exact Or.inl rfl | exact Or.inr rfl | fail) only [r7_0, r7_2, r7_3, r7_4, r7_5, r7_6, r7_8, r7_11, r7_12, r7_13, r7_16, r7_19, r7_20, r7_23, r7_24, r7_26, r7_27, r7_31, r7_32, r7_35, r7_37, r7_40, r7_41, r7_44, r7_45, r7_47, r7_50, r7_51, r7_54, r7_55, r7_56, r7_57, r7_59, r7_60, r7_63, r7_66, r7_67, r7_70, r7_73, r7_76, r7_79, r7_80, rm, c1', tb_vl_some, tb_vl_none, tb_wF_some, nI_add, pk_mul, e_sub, e_div, tb_nmod, e_dec, e_le, e_lt, e_eq, e_eq0, e_lt0, e_0le, e_0lt, e_le0, if_true, if_false, not_true_eq_false, not_false_eq_true, ite_true, ite_false, Nat.reduceAdd, Nat.reduceMul, Nat.reduceLeDiff, Nat.reduceLT, Nat.reduceEqDiff, Nat.reduceSub, ↓reduceIte, Nat.reduceDiv, Nat.reduceMod]
      exact tail
    · have c1' : sp_room s i c = 0 := by omega
      rw [if_neg c1] at tail
      simp (disch := first | assumption | omega | exact tb_sm0 | exact tb_sm1 _ | exact tb_sm2 _ _ | exact tb_sm3 _ _ _ | exact tb_sm4 _ _ _ _ | exact Or.inl rfl | exact Or.inr rfl | fail) only [r7_0, r7_2, r7_3, r7_4, r7_5, r7_6, r7_8, r7_11, r7_12, r7_13, r7_16, r7_19, r7_20, r7_23, r7_24, r7_26, r7_27, r7_31, r7_32, r7_35, r7_37, r7_40, r7_41, r7_44, r7_45, r7_47, r7_50, r7_51, r7_54, r7_55, r7_56, r7_57, r7_59, r7_60, r7_63, r7_66, r7_67, r7_70, r7_73, r7_76, r7_79, r7_80, rm, c1', tb_vl_some, tb_vl_none, tb_wF_some, nI_add, pk_mul, e_sub, e_div, tb_nmod, e_dec, e_le, e_lt, e_eq, e_eq0, e_lt0, e_0le, e_0lt, e_le0, if_true, if_false, not_true_eq_false, not_false_eq_true, ite_true, ite_false, Nat.reduceAdd, Nat.reduceMul, Nat.reduceLeDiff, Nat.reduceLT, Nat.reduceEqDiff, Nat.reduceSub, ↓reduceIte, Nat.reduceDiv, Nat.reduceMod]
      exact tail
theorem c_leastAngleOfSlide (hB : tb_Bq h b s mv i) (hR : tb_Ru h a s) (hI : sp_I s) (hi : i < 5) (hm : ∀ j, j < 32 → mv j = s (208 + 32 * i + j)) (hd : 3 ≤ d) (hQ : Q (some (.int (nI (sp_lst s i 32)))) h nx) : tb_wp E d 7 0 [.ref b, .ref a, .long 0, .long 0, .long 0, .long 0] [] h nx 0 0 Q := by
  simp (disch := first | assumption | omega | exact tb_sm0 | exact tb_sm1 _ | exact tb_sm2 _ _ | exact tb_sm3 _ _ _ | exact tb_sm4 _ _ _ _ | exact Or.inl rfl | exact Or.inr rfl | fail) only [r7_0, r7_2, r7_3, r7_4, r7_6, r7_8, r7_11, r7_12, r7_13, r7_16, r7_19, r7_20, r7_23, r7_24, r7_26, r7_27, r7_29, r7_31, r7_32, r7_35, r7_37, r7_40, r7_41, r7_44, r7_45, r7_47, r7_50, r7_51, r7_54, r7_55, r7_56, r7_57, r7_59, r7_60, r7_63, r7_66, r7_67, r7_70, r7_73, r7_76, r7_79, r7_80]
  exact c_least_c hB hR hI hi hm hd hQ 8 0 _ _ (by decide)
end C2
