/-! THE REFERENCE: rest, sliding, a tick -/
theorem va_up_s {f : Nat → Nat} {k v : Nat} : va_up f k v k = v := by simp [va_up]
theorem va_up_n {f : Nat → Nat} {k v j : Nat} (h : j ≠ k) : va_up f k v j = f j := by simp [va_up, h]
def sp_rest (s : Nat → Nat) (b : Nat) : Prop := ∀ k, k < 32 → ¬ sp_why s b (k / 4) (k % 4) = 0
def sp_lt (s : Nat → Nat) (i j : Nat) : Nat := if s (5 + i) < s (5 + j) ∨ (s (5 + i) = s (5 + j) ∧ i < j) then 1 else 0
def sp_rank (s : Nat → Nat) (k : Nat) : Nat := sp_lt s 0 k + sp_lt s 1 k + sp_lt s 2 k + sp_lt s 3 k
def sp_kd (s : Nat → Nat) (t : Nat) : Nat := if sp_rank s 3 = t then 3 else if sp_rank s 2 = t then 2 else if sp_rank s 1 = t then 1 else 0
theorem sp_rank_all (s : Nat → Nat) {t : Nat} (ht : t < 4) : sp_rank s 0 = t ∨ sp_rank s 1 = t ∨ sp_rank s 2 = t ∨ sp_rank s 3 = t := by
  unfold sp_rank sp_lt
  generalize s (5 + 0) = x0
  generalize s (5 + 1) = x1
  generalize s (5 + 2) = x2
  generalize s (5 + 3) = x3
  have e1 : ∀ (a b : Nat) (i j : Nat), i < j → (if a < b ∨ (a = b ∧ i < j) then 1 else 0) = (if a ≤ b then 1 else 0 : Nat) := by
    intro a b i j h
    by_cases q : a ≤ b
    · rw [if_pos q, if_pos]; omega
    · rw [if_neg q, if_neg]; omega
  have e2 : ∀ (a b : Nat) (i j : Nat), j ≤ i → (if a < b ∨ (a = b ∧ i < j) then 1 else 0) = (if a < b then 1 else 0 : Nat) := by
    intro a b i j h
    by_cases q : a < b
    · rw [if_pos q, if_pos]; omega
    · rw [if_neg q, if_neg]; omega
  rw [e1 x0 x1 0 1 (by decide), e1 x0 x2 0 2 (by decide), e1 x0 x3 0 3 (by decide), e1 x1 x2 1 2 (by decide), e1 x1 x3 1 3 (by decide), e1 x2 x3 2 3 (by decide), e2 x0 x0 0 0 (by decide), e2 x1 x0 1 0 (by decide), e2 x2 x0 2 0 (by decide), e2 x3 x0 3 0 (by decide), e2 x1 x1 1 1 (by decide), e2 x2 x1 2 1 (by decide), e2 x3 x1 3 1 (by decide), e2 x2 x2 2 2 (by decide), e2 x3 x2 3 2 (by decide), e2 x3 x3 3 3 (by decide)]
  have f : ∀ (a b : Nat), (if a ≤ b then 1 else 0 : Nat) + (if b < a then 1 else 0) = 1 := by
    intro a b
    by_cases q : a ≤ b
    · rw [if_pos q, if_neg (by omega)]
    · rw [if_neg q, if_pos (by omega)]
  by_cases a1 : x0 ≤ x1 <;> by_cases a2 : x0 ≤ x2 <;> by_cases a3 : x0 ≤ x3 <;> by_cases a4 : x1 ≤ x2 <;> by_cases a5 : x1 ≤ x3 <;> by_cases a6 : x2 ≤ x3 <;>
  · have b1 := f x0 x1
    have b2 := f x0 x2
    have b3 := f x0 x3
    have b4 := f x1 x2
    have b5 := f x1 x3
    have b6 := f x2 x3
    simp only [a1, a2, a3, a4, a5, a6, if_true, if_false, Nat.lt_irrefl] at b1 b2 b3 b4 b5 b6 ⊢
    omega
theorem sp_kd_ok (s : Nat → Nat) {t : Nat} (ht : t < 4) : sp_kd s t < 4 ∧ sp_rank s (sp_kd s t) = t := by
  have h := sp_rank_all s ht
  unfold sp_kd
  split
  · exact ⟨by decide, by assumption⟩
  · split
    · exact ⟨by decide, by assumption⟩
    · split
      · exact ⟨by decide, by assumption⟩
      · refine ⟨by decide, ?_⟩
        rcases h with h | h | h | h
        · exact h
        · exact absurd h (by assumption)
        · exact absurd h (by assumption)
        · exact absurd h (by assumption)
def sp_g (s : Nat → Nat) (b c k : Nat) : Nat := if s (48 + 32 * b + 4 * c + k) < sp_room s b c then s (48 + 32 * b + 4 * c + k) else sp_room s b c
def sp_sl (s : Nat → Nat) (b c k : Nat) : Nat → Nat :=
  let g := sp_g s b c k
  let u := g / s 3
  let s1 := va_up s (48 + 32 * b + 4 * c + k) (s (48 + 32 * b + 4 * c + k) - g)
  let s2 := va_up s1 (23 + b) (s1 (23 + b) + u)
  if c = 7 then
    let s3 := va_up s2 (28 + 4 * b + k) (s2 (28 + 4 * b + k) + (g - u))
    va_up s3 (18 + b) (s3 (18 + b) + (g - u))
  else va_up s2 (48 + 32 * b + 4 * (c + 1) + k) (s2 (48 + 32 * b + 4 * (c + 1) + k) + (g - u))
def sp_cm (s cm : Nat → Nat) (b c k : Nat) : Nat → Nat := if c = 7 then cm else va_up cm (4 * c + 4 + k) (if sp_g s b c k ≤ sp_g s b c k / s 3 then 0 else 1)
def tb_MC (h : tb_heap) (m : Nat) (s cm : Nat → Nat) : Prop := tb_MS h m s ∧ tb_isA h (m + 7) 0 32 (fun j => nI (cm j))
theorem tb_MC.st {h : tb_heap} {m : Nat} {s cm : Nat → Nat} (hM : tb_MC h m s cm) {j v : Nat} (hj : j < 32) {K : tb_heap → Prop} (hK : ∀ h', tb_MC h' m s (va_up cm j v) → (∀ q, q ≠ m + 7 → h' q = h q) → K h') : tb_wF (tb_stv h 0 (m + 7) (nI j) (nI v)) K := by
  refine hM.2.st hj (by decide) (fun h' hA hF => hK h' ⟨hM.1.to (hF _ (by omega)) (hF _ (by omega)) (fun _ _ => rfl), hA.to rfl (fun i hi => ?_)⟩ hF)
  unfold upd va_up
  dsimp only
  split <;> rfl
section M2
variable {E : tb_env} {d : Nat} {h : tb_heap} {nx : Nat} {Q : Option Value → tb_heap → Nat → Prop}
theorem m_rest_0 {m b : Nat} {s : Nat → Nat} (hM : tb_MS h m s) (hI : sp_I s) (hb : b < 5) (hd : 4 ≤ d) (n : Nat) : ∀ i, i + n = 32 → tb_wp E d 105 4 [.ref m, .int (nI b), .int (nI 0), .int (nI i)] [] h nx 0 0 Q = Q (some (.int (nI 0))) h nx := by
  induction n with
  | zero =>
    intro i hi
    simp (disch := first | assumption | omega | exact tb_sm0 | exact tb_sm1 _ | exact tb_sm2 _ _ | exact tb_sm3 _ _ _ | exact tb_sm4 _ _ _ _ | exact Or.inl rfl | exact Or.inr rfl | fail) only [r105_4, r105_5, r105_7, nI_add, pk_mul, e_sub, e_div, tb_nmod, e_dec, e_le, e_lt, e_eq, e_eq0, e_lt0, e_0le, e_0lt, e_le0, if_true, if_false, not_true_eq_false, not_false_eq_true, ite_true, ite_false, Nat.reduceAdd, Nat.reduceMul, Nat.reduceLeDiff, Nat.reduceLT, Nat.reduceEqDiff, Nat.reduceSub, ↓reduceIte, Nat.reduceDiv, Nat.reduceMod]
    rw [if_pos (by omega)]
    simp (disch := first | assumption | omega | exact tb_sm0 | exact tb_sm1 _ | exact tb_sm2 _ _ | exact tb_sm3 _ _ _ | exact tb_sm4 _ _ _ _ | exact Or.inl rfl | exact Or.inr rfl | fail) only [r105_0, r105_1, r105_2, r105_3, r105_5, r105_7, r105_10, r105_11, r105_14, r105_15, r105_16, r105_17, r105_18, r105_19, r105_20, r105_21, r105_22, r105_25, r105_28, r105_29, r105_32, r105_33, r105_34, r105_37, r105_40, r105_41, nI_add, pk_mul, e_sub, e_div, tb_nmod, e_dec, e_le, e_lt, e_eq, e_eq0, e_lt0, e_0le, e_0lt, e_le0, if_true, if_false, not_true_eq_false, not_false_eq_true, ite_true, ite_false, Nat.reduceAdd, Nat.reduceMul, Nat.reduceLeDiff, Nat.reduceLT, Nat.reduceEqDiff, Nat.reduceSub, ↓reduceIte, Nat.reduceDiv, Nat.reduceMod]
  | succ n ih =>
    intro i hi
    simp (disch := first | assumption | omega | exact tb_sm0 | exact tb_sm1 _ | exact tb_sm2 _ _ | exact tb_sm3 _ _ _ | exact tb_sm4 _ _ _ _ | exact Or.inl rfl | exact Or.inr rfl | fail) only [r105_4, r105_5, r105_7, nI_add, pk_mul, e_sub, e_div, tb_nmod, e_dec, e_le, e_lt, e_eq, e_eq0, e_lt0, e_0le, e_0lt, e_le0, if_true, if_false, not_true_eq_false, not_false_eq_true, ite_true, ite_false, Nat.reduceAdd, Nat.reduceMul, Nat.reduceLeDiff, Nat.reduceLT, Nat.reduceEqDiff, Nat.reduceSub, ↓reduceIte, Nat.reduceDiv, Nat.reduceMod]
    rw [if_neg (by omega)]
    simp (disch := first | assumption | omega | exact tb_sm0 | exact tb_sm1 _ | exact tb_sm2 _ _ | exact tb_sm3 _ _ _ | exact tb_sm4 _ _ _ _ | exact Or.inl rfl | exact Or.inr rfl | fail) only [r105_0, r105_1, r105_2, r105_3, r105_5, r105_7, r105_10, r105_11, r105_14, r105_15, r105_16, r105_17, r105_18, r105_19, r105_20, r105_21, r105_22, r105_25, r105_28, r105_29, r105_32, r105_33, r105_34, r105_37, r105_40, r105_41, nI_add, pk_mul, e_sub, e_div, tb_nmod, e_dec, e_le, e_lt, e_eq, e_eq0, e_lt0, e_0le, e_0lt, e_le0, if_true, if_false, not_true_eq_false, not_false_eq_true, ite_true, ite_false, Nat.reduceAdd, Nat.reduceMul, Nat.reduceLeDiff, Nat.reduceLT, Nat.reduceEqDiff, Nat.reduceSub, ↓reduceIte, Nat.reduceDiv, Nat.reduceMod]
    exact ih (i + 1) (by omega)
theorem m_rest_1 {m b : Nat} {s : Nat → Nat} (hM : tb_MS h m s) (hI : sp_I s) (hb : b < 5) (hd : 4 ≤ d) (n : Nat) : ∀ i, i + n = 32 → (∀ k, i ≤ k → k < 32 → ¬ sp_why s b (k / 4) (k % 4) = 0) → tb_wp E d 105 4 [.ref m, .int (nI b), .int (nI 1), .int (nI i)] [] h nx 0 0 Q = Q (some (.int (nI 1))) h nx := by
  have h4 : ¬ nI 4 = 0 := by decide
  have hO := hM.O
  induction n with
  | zero =>
    intro i hi hr
    simp (disch := first | assumption | omega | exact tb_sm0 | exact tb_sm1 _ | exact tb_sm2 _ _ | exact tb_sm3 _ _ _ | exact tb_sm4 _ _ _ _ | exact Or.inl rfl | exact Or.inr rfl | fail) only [r105_4, r105_5, r105_7, nI_add, pk_mul, e_sub, e_div, tb_nmod, e_dec, e_le, e_lt, e_eq, e_eq0, e_lt0, e_0le, e_0lt, e_le0, if_true, if_false, not_true_eq_false, not_false_eq_true, ite_true, ite_false, Nat.reduceAdd, Nat.reduceMul, Nat.reduceLeDiff, Nat.reduceLT, Nat.reduceEqDiff, Nat.reduceSub, ↓reduceIte, Nat.reduceDiv, Nat.reduceMod]
    rw [if_pos (by omega)]
    simp (disch := first | assumption | omega | exact tb_sm0 | exact tb_sm1 _ | exact tb_sm2 _ _ | exact tb_sm3 _ _ _ | exact tb_sm4 _ _ _ _ | exact Or.inl rfl | exact Or.inr rfl | fail) only [r105_0, r105_1, r105_2, r105_3, r105_5, r105_7, r105_10, r105_11, r105_14, r105_15, r105_16, r105_17, r105_18, r105_19, r105_20, r105_21, r105_22, r105_25, r105_28, r105_29, r105_32, r105_33, r105_34, r105_37, r105_40, r105_41, nI_add, pk_mul, e_sub, e_div, tb_nmod, e_dec, e_le, e_lt, e_eq, e_eq0, e_lt0, e_0le, e_0lt, e_le0, if_true, if_false, not_true_eq_false, not_false_eq_true, ite_true, ite_false, Nat.reduceAdd, Nat.reduceMul, Nat.reduceLeDiff, Nat.reduceLT, Nat.reduceEqDiff, Nat.reduceSub, ↓reduceIte, Nat.reduceDiv, Nat.reduceMod]
  | succ n ih =>
    intro i hi hr
    have hw := hr i (Nat.le_refl i) (by omega)
    have hwl : sp_why s b (i / 4) (i % 4) ≤ 3 := by unfold sp_why; split; decide; split; decide; split <;> decide
    simp (disch := first | assumption | omega | exact tb_sm0 | exact tb_sm1 _ | exact tb_sm2 _ _ | exact tb_sm3 _ _ _ | exact tb_sm4 _ _ _ _ | exact Or.inl rfl | exact Or.inr rfl | fail) only [r105_4, r105_5, r105_7, nI_add, pk_mul, e_sub, e_div, tb_nmod, e_dec, e_le, e_lt, e_eq, e_eq0, e_lt0, e_0le, e_0lt, e_le0, if_true, if_false, not_true_eq_false, not_false_eq_true, ite_true, ite_false, Nat.reduceAdd, Nat.reduceMul, Nat.reduceLeDiff, Nat.reduceLT, Nat.reduceEqDiff, Nat.reduceSub, ↓reduceIte, Nat.reduceDiv, Nat.reduceMod]
    rw [if_neg (by omega)]
    simp (disch := first | assumption | omega | exact tb_sm0 | exact tb_sm1 _ | exact tb_sm2 _ _ | exact tb_sm3 _ _ _ | exact tb_sm4 _ _ _ _ | exact Or.inl rfl | exact Or.inr rfl | fail) only [r105_0, r105_1, r105_2, r105_3, r105_5, r105_7, r105_10, r105_11, r105_14, r105_15, r105_16, r105_17, r105_18, r105_19, r105_20, r105_21, r105_22, r105_25, r105_28, r105_29, r105_32, r105_33, r105_34, r105_37, r105_40, r105_41, m_why hM hI, hw, tb_vl_some, tb_vl_none, tb_wF_some, nI_add, pk_mul, e_sub, e_div, tb_nmod, e_dec, e_le, e_lt, e_eq, e_eq0, e_lt0, e_0le, e_0lt, e_le0, if_true, if_false, not_true_eq_false, not_false_eq_true, ite_true, ite_false, Nat.reduceAdd, Nat.reduceMul, Nat.reduceLeDiff, Nat.reduceLT, Nat.reduceEqDiff, Nat.reduceSub, ↓reduceIte, Nat.reduceDiv, Nat.reduceMod]
    exact ih (i + 1) (by omega) (fun k hk => hr k (by omega))
theorem m_rest_2 {m b : Nat} {s : Nat → Nat} (hM : tb_MS h m s) (hI : sp_I s) (hb : b < 5) (hd : 4 ≤ d) (n : Nat) : ∀ i, i + n = 32 → (∃ k, i ≤ k ∧ k < 32 ∧ sp_why s b (k / 4) (k % 4) = 0) → tb_wp E d 105 4 [.ref m, .int (nI b), .int (nI 1), .int (nI i)] [] h nx 0 0 Q = Q (some (.int (nI 0))) h nx := by
  have h4 : ¬ nI 4 = 0 := by decide
  have hO := hM.O
  induction n with
  | zero =>
    intro i hi hr
    obtain ⟨k, h1, h2, -⟩ := hr
    omega
  | succ n ih =>
    intro i hi hr
    have hwl : sp_why s b (i / 4) (i % 4) ≤ 3 := by unfold sp_why; split; decide; split; decide; split <;> decide
    simp (disch := first | assumption | omega | exact tb_sm0 | exact tb_sm1 _ | exact tb_sm2 _ _ | exact tb_sm3 _ _ _ | exact tb_sm4 _ _ _ _ | exact Or.inl rfl | exact Or.inr rfl | fail) only [r105_4, r105_5, r105_7, nI_add, pk_mul, e_sub, e_div, tb_nmod, e_dec, e_le, e_lt, e_eq, e_eq0, e_lt0, e_0le, e_0lt, e_le0, if_true, if_false, not_true_eq_false, not_false_eq_true, ite_true, ite_false, Nat.reduceAdd, Nat.reduceMul, Nat.reduceLeDiff, Nat.reduceLT, Nat.reduceEqDiff, Nat.reduceSub, ↓reduceIte, Nat.reduceDiv, Nat.reduceMod]
    rw [if_neg (by omega)]
    by_cases hw : sp_why s b (i / 4) (i % 4) = 0
    · simp (disch := first | assumption | omega | exact tb_sm0 | exact tb_sm1 _ | exact tb_sm2 _ _ | exact tb_sm3 _ _ _ | exact tb_sm4 _ _ _ _ | exact Or.inl rfl | exact Or.inr rfl | fail) only [r105_0, r105_1, r105_2, r105_3, r105_5, r105_7, r105_10, r105_11, r105_14, r105_15, r105_16, r105_17, r105_18, r105_19, r105_20, r105_21, r105_22, r105_25, r105_28, r105_29, r105_32, r105_33, r105_34, r105_37, r105_40, r105_41, m_why hM hI, hw, tb_vl_some, tb_vl_none, tb_wF_some, nI_add, pk_mul, e_sub, e_div, tb_nmod, e_dec, e_le, e_lt, e_eq, e_eq0, e_lt0, e_0le, e_0lt, e_le0, if_true, if_false, not_true_eq_false, not_false_eq_true, ite_true, ite_false, Nat.reduceAdd, Nat.reduceMul, Nat.reduceLeDiff, Nat.reduceLT, Nat.reduceEqDiff, Nat.reduceSub, ↓reduceIte, Nat.reduceDiv, Nat.reduceMod]
      exact m_rest_0 hM hI hb hd n (i + 1) (by omega)
    · simp (disch := first | assumption | omega | exact tb_sm0 | exact tb_sm1 _ | exact tb_sm2 _ _ | exact tb_sm3 _ _ _ | exact tb_sm4 _ _ _ _ | exact Or.inl rfl | exact Or.inr rfl | fail) only [r105_0, r105_1, r105_2, r105_3, r105_5, r105_7, r105_10, r105_11, r105_14, r105_15, r105_16, r105_17, r105_18, r105_19, r105_20, r105_21, r105_22, r105_25, r105_28, r105_29, r105_32, r105_33, r105_34, r105_37, r105_40, r105_41, m_why hM hI, hw, tb_vl_some, tb_vl_none, tb_wF_some, nI_add, pk_mul, e_sub, e_div, tb_nmod, e_dec, e_le, e_lt, e_eq, e_eq0, e_lt0, e_0le, e_0lt, e_le0, if_true, if_false, not_true_eq_false, not_false_eq_true, ite_true, ite_false, Nat.reduceAdd, Nat.reduceMul, Nat.reduceLeDiff, Nat.reduceLT, Nat.reduceEqDiff, Nat.reduceSub, ↓reduceIte, Nat.reduceDiv, Nat.reduceMod]
      refine ih (i + 1) (by omega) ?_
      obtain ⟨k, h1, h2, h3⟩ := hr
      refine ⟨k, ?_, h2, h3⟩
      rcases Nat.eq_or_lt_of_le h1 with q | q
      · subst q; exact absurd h3 hw
      · exact q
theorem m_isAtRest_t {m b : Nat} {s : Nat → Nat} (hM : tb_MS h m s) (hI : sp_I s) (hb : b < 5) (hd : 4 ≤ d) (hr : sp_rest s b) : tb_wp E d 105 0 [.ref m, .int (nI b), .long 0, .long 0] [] h nx 0 0 Q = Q (some (.int (nI 1))) h nx := by
  simp (disch := first | assumption | omega | exact tb_sm0 | exact tb_sm1 _ | exact tb_sm2 _ _ | exact tb_sm3 _ _ _ | exact tb_sm4 _ _ _ _ | exact Or.inl rfl | exact Or.inr rfl | fail) only [r105_0, r105_1, r105_2, r105_3, r105_5, r105_7, r105_10, r105_11, r105_14, r105_15, r105_16, r105_17, r105_18, r105_19, r105_20, r105_21, r105_22, r105_25, r105_28, r105_29, r105_32, r105_33, r105_34, r105_37, r105_40, r105_41]
  exact m_rest_1 hM hI hb hd 32 0 rfl (fun k _ hk => hr k hk)
theorem m_isAtRest_f {m b : Nat} {s : Nat → Nat} (hM : tb_MS h m s) (hI : sp_I s) (hb : b < 5) (hd : 4 ≤ d) (hr : ¬ sp_rest s b) : tb_wp E d 105 0 [.ref m, .int (nI b), .long 0, .long 0] [] h nx 0 0 Q = Q (some (.int (nI 0))) h nx := by
  simp (disch := first | assumption | omega | exact tb_sm0 | exact tb_sm1 _ | exact tb_sm2 _ _ | exact tb_sm3 _ _ _ | exact tb_sm4 _ _ _ _ | exact Or.inl rfl | exact Or.inr rfl | fail) only [r105_0, r105_1, r105_2, r105_3, r105_5, r105_7, r105_10, r105_11, r105_14, r105_15, r105_16, r105_17, r105_18, r105_19, r105_20, r105_21, r105_22, r105_25, r105_28, r105_29, r105_32, r105_33, r105_34, r105_37, r105_40, r105_41]
  refine m_rest_2 hM hI hb hd 32 0 rfl ?_
  apply Classical.byContradiction
  intro q
  exact hr (fun k hk hw => q ⟨k, Nat.zero_le k, hk, hw⟩)
theorem m_kindAt_i {m k j a : Nat} {t f : Value} {s : Nat → Nat} (hM : tb_MS h m s) (hI : sp_I s) (hk : k < 4) (hj : j < 4) : tb_wp E d 107 16 [.ref m, t, f, .int (nI k), .int (nI a), .int (nI j)] [] h nx 0 0 Q = tb_wp E d 107 16 [.ref m, t, f, .int (nI k), .int (nI (a + sp_lt s j k)), .int (nI (j + 1))] [] h nx 0 0 Q := by
  have h1 := hM.g
  have g1 := hI.2.2.1 j hj
  have g2 := hI.2.2.1 k hk
  conv => lhs; simp (disch := first | assumption | omega | exact tb_sm0 | exact tb_sm1 _ | exact tb_sm2 _ _ | exact tb_sm3 _ _ _ | exact tb_sm4 _ _ _ _ | exact Or.inl rfl | exact Or.inr rfl | fail) only [r107_16, r107_18, r107_19, nI_add, pk_mul, e_sub, e_div, tb_nmod, e_dec, e_le, e_lt, e_eq, e_eq0, e_lt0, e_0le, e_0lt, e_le0, if_true, if_false, not_true_eq_false, not_false_eq_true, ite_true, ite_false, Nat.reduceAdd, Nat.reduceMul, Nat.reduceLeDiff, Nat.reduceLT, Nat.reduceEqDiff, Nat.reduceSub, ↓reduceIte, Nat.reduceDiv, Nat.reduceMod]
  rw [if_neg (by omega)]
  unfold sp_lt
  by_cases c1 : s (5 + j) < s (5 + k)
  · simp (disch := first | assumption | omega | exact tb_sm0 | exact tb_sm1 _ | exact tb_sm2 _ _ | exact tb_sm3 _ _ _ | exact tb_sm4 _ _ _ _ | exact Or.inl rfl | exact Or.inr rfl | fail) only [r107_0, r107_2, r107_3, r107_4, r107_5, r107_6, r107_7, r107_10, r107_11, r107_13, r107_14, r107_18, r107_19, r107_22, r107_24, r107_25, r107_28, r107_29, r107_31, r107_32, r107_33, r107_34, r107_37, r107_38, r107_39, r107_40, r107_41, r107_44, r107_45, r107_48, r107_49, r107_51, r107_52, r107_53, r107_54, r107_57, r107_58, r107_59, r107_60, r107_61, r107_64, r107_66, r107_67, r107_70, r107_71, r107_74, r107_75, r107_76, r107_78, r107_81, r107_84, r107_86, r107_87, r107_90, r107_91, r107_94, r107_95, r107_96, r107_99, r107_102, r107_103, h1, hM.ld, c1, true_or, tb_vl_some, tb_vl_none, tb_wF_some, nI_add, pk_mul, e_sub, e_div, tb_nmod, e_dec, e_le, e_lt, e_eq, e_eq0, e_lt0, e_0le, e_0lt, e_le0, if_true, if_false, not_true_eq_false, not_false_eq_true, ite_true, ite_false, Nat.reduceAdd, Nat.reduceMul, Nat.reduceLeDiff, Nat.reduceLT, Nat.reduceEqDiff, Nat.reduceSub, ↓reduceIte, Nat.reduceDiv, Nat.reduceMod]
  · by_cases c2 : s (5 + j) = s (5 + k)
    · by_cases c3 : j < k
      · have c3' : ¬ k ≤ j := by omega
        simp (disch := first | assumption | omega | exact tb_sm0 | exact tb_sm1 _ | exact tb_sm2 _ _ | exact tb_sm3 _ _ _ | exact tb_sm4 _ _ _ _ | exact Or.inl rfl | exact Or.inr rfl | fail) only [r107_0, r107_2, r107_3, r107_4, r107_5, r107_6, r107_7, r107_10, r107_11, r107_13, r107_14, r107_18, r107_19, r107_22, r107_24, r107_25, r107_28, r107_29, r107_31, r107_32, r107_33, r107_34, r107_37, r107_38, r107_39, r107_40, r107_41, r107_44, r107_45, r107_48, r107_49, r107_51, r107_52, r107_53, r107_54, r107_57, r107_58, r107_59, r107_60, r107_61, r107_64, r107_66, r107_67, r107_70, r107_71, r107_74, r107_75, r107_76, r107_78, r107_81, r107_84, r107_86, r107_87, r107_90, r107_91, r107_94, r107_95, r107_96, r107_99, r107_102, r107_103, h1, hM.ld, c2, c3, c3', Nat.lt_irrefl, false_or, true_and, tb_vl_some, tb_vl_none, tb_wF_some, nI_add, pk_mul, e_sub, e_div, tb_nmod, e_dec, e_le, e_lt, e_eq, e_eq0, e_lt0, e_0le, e_0lt, e_le0, if_true, if_false, not_true_eq_false, not_false_eq_true, ite_true, ite_false, Nat.reduceAdd, Nat.reduceMul, Nat.reduceLeDiff, Nat.reduceLT, Nat.reduceEqDiff, Nat.reduceSub, ↓reduceIte, Nat.reduceDiv, Nat.reduceMod]
      · have c3' : k ≤ j := by omega
        simp (disch := first | assumption | omega | exact tb_sm0 | exact tb_sm1 _ | exact tb_sm2 _ _ | exact tb_sm3 _ _ _ | exact tb_sm4 _ _ _ _ | exact Or.inl rfl | exact Or.inr rfl | fail) only [r107_0, r107_2, r107_3, r107_4, r107_5, r107_6, r107_7, r107_10, r107_11, r107_13, r107_14, r107_18, r107_19, r107_22, r107_24, r107_25, r107_28, r107_29, r107_31, r107_32, r107_33, r107_34, r107_37, r107_38, r107_39, r107_40, r107_41, r107_44, r107_45, r107_48, r107_49, r107_51, r107_52, r107_53, r107_54, r107_57, r107_58, r107_59, r107_60, r107_61, r107_64, r107_66, r107_67, r107_70, r107_71, r107_74, r107_75, r107_76, r107_78, r107_81, r107_84, r107_86, r107_87, r107_90, r107_91, r107_94, r107_95, r107_96, r107_99, r107_102, r107_103, h1, hM.ld, c2, c3, c3', Nat.lt_irrefl, false_or, true_and, and_false, tb_vl_some, tb_vl_none, tb_wF_some, nI_add, pk_mul, e_sub, e_div, tb_nmod, e_dec, e_le, e_lt, e_eq, e_eq0, e_lt0, e_0le, e_0lt, e_le0, if_true, if_false, not_true_eq_false, not_false_eq_true, ite_true, ite_false, Nat.reduceAdd, Nat.reduceMul, Nat.reduceLeDiff, Nat.reduceLT, Nat.reduceEqDiff, Nat.reduceSub, ↓reduceIte, Nat.reduceDiv, Nat.reduceMod, Nat.add_zero]
    · simp (disch := first | assumption | omega | exact tb_sm0 | exact tb_sm1 _ | exact tb_sm2 _ _ | exact tb_sm3 _ _ _ | exact tb_sm4 _ _ _ _ | exact Or.inl rfl | exact Or.inr rfl | fail) only [r107_0, r107_2, r107_3, r107_4, r107_5, r107_6, r107_7, r107_10, r107_11, r107_13, r107_14, r107_18, r107_19, r107_22, r107_24, r107_25, r107_28, r107_29, r107_31, r107_32, r107_33, r107_34, r107_37, r107_38, r107_39, r107_40, r107_41, r107_44, r107_45, r107_48, r107_49, r107_51, r107_52, r107_53, r107_54, r107_57, r107_58, r107_59, r107_60, r107_61, r107_64, r107_66, r107_67, r107_70, r107_71, r107_74, r107_75, r107_76, r107_78, r107_81, r107_84, r107_86, r107_87, r107_90, r107_91, r107_94, r107_95, r107_96, r107_99, r107_102, r107_103, h1, hM.ld, c1, c2, false_or, false_and, tb_vl_some, tb_vl_none, tb_wF_some, nI_add, pk_mul, e_sub, e_div, tb_nmod, e_dec, e_le, e_lt, e_eq, e_eq0, e_lt0, e_0le, e_0lt, e_le0, if_true, if_false, not_true_eq_false, not_false_eq_true, ite_true, ite_false, Nat.reduceAdd, Nat.reduceMul, Nat.reduceLeDiff, Nat.reduceLT, Nat.reduceEqDiff, Nat.reduceSub, ↓reduceIte, Nat.reduceDiv, Nat.reduceMod, Nat.add_zero]
theorem m_kindAt_o {m k t : Nat} {f : Int32} {y z : Value} {s : Nat → Nat} (hM : tb_MS h m s) (hI : sp_I s) (hk : k < 4) (ht : t < 4) : tb_wp E d 107 5 [.ref m, .int (nI t), .int f, .int (nI k), y, z] [] h nx 0 0 Q = tb_wp E d 107 5 [.ref m, .int (nI t), .int (if sp_rank s k = t then nI k else f), .int (nI (k + 1)), .int (nI (sp_rank s k)), .int (nI 4)] [] h nx 0 0 Q := by
  have hr : sp_rank s k < 5 := by
    unfold sp_rank
    have q : ∀ i j, sp_lt s i j ≤ 1 := by intro i j; unfold sp_lt; split <;> decide
    have := q 0 k; have := q 1 k; have := q 2 k; have := q 3 k
    omega
  conv => lhs; simp (disch := first | assumption | omega | exact tb_sm0 | exact tb_sm1 _ | exact tb_sm2 _ _ | exact tb_sm3 _ _ _ | exact tb_sm4 _ _ _ _ | exact Or.inl rfl | exact Or.inr rfl | fail) only [r107_5, r107_6, r107_7, nI_add, pk_mul, e_sub, e_div, tb_nmod, e_dec, e_le, e_lt, e_eq, e_eq0, e_lt0, e_0le, e_0lt, e_le0, if_true, if_false, not_true_eq_false, not_false_eq_true, ite_true, ite_false, Nat.reduceAdd, Nat.reduceMul, Nat.reduceLeDiff, Nat.reduceLT, Nat.reduceEqDiff, Nat.reduceSub, ↓reduceIte, Nat.reduceDiv, Nat.reduceMod]
  rw [if_neg (by omega)]
  simp (disch := first | assumption | omega | exact tb_sm0 | exact tb_sm1 _ | exact tb_sm2 _ _ | exact tb_sm3 _ _ _ | exact tb_sm4 _ _ _ _ | exact Or.inl rfl | exact Or.inr rfl | fail) only [r107_10, r107_11, r107_13, r107_14]
  rw [m_kindAt_i hM hI hk (by decide), m_kindAt_i hM hI hk (by decide), m_kindAt_i hM hI hk (by decide), m_kindAt_i hM hI hk (by decide)]
  rw [show 0 + sp_lt s 0 k + sp_lt s (0 + 1) k + sp_lt s (0 + 1 + 1) k + sp_lt s (0 + 1 + 1 + 1) k = sp_rank s k by unfold sp_rank; simp only [Nat.reduceAdd, Nat.zero_add]]
  conv => lhs; simp (disch := first | assumption | omega | exact tb_sm0 | exact tb_sm1 _ | exact tb_sm2 _ _ | exact tb_sm3 _ _ _ | exact tb_sm4 _ _ _ _ | exact Or.inl rfl | exact Or.inr rfl | fail) only [r107_16, r107_18, r107_19, nI_add, pk_mul, e_sub, e_div, tb_nmod, e_dec, e_le, e_lt, e_eq, e_eq0, e_lt0, e_0le, e_0lt, e_le0, if_true, if_false, not_true_eq_false, not_false_eq_true, ite_true, ite_false, Nat.reduceAdd, Nat.reduceMul, Nat.reduceLeDiff, Nat.reduceLT, Nat.reduceEqDiff, Nat.reduceSub, ↓reduceIte, Nat.reduceDiv, Nat.reduceMod]
  by_cases c : sp_rank s k = t
  · subst c
    simp (disch := first | assumption | omega | exact tb_sm0 | exact tb_sm1 _ | exact tb_sm2 _ _ | exact tb_sm3 _ _ _ | exact tb_sm4 _ _ _ _ | exact Or.inl rfl | exact Or.inr rfl | fail) only [r107_0, r107_2, r107_3, r107_4, r107_6, r107_7, r107_10, r107_11, r107_13, r107_14, r107_18, r107_19, r107_22, r107_24, r107_25, r107_28, r107_29, r107_31, r107_32, r107_33, r107_34, r107_37, r107_38, r107_39, r107_40, r107_41, r107_44, r107_45, r107_48, r107_49, r107_51, r107_52, r107_53, r107_54, r107_57, r107_58, r107_59, r107_60, r107_61, r107_64, r107_66, r107_67, r107_70, r107_71, r107_74, r107_75, r107_76, r107_78, r107_81, r107_84, r107_86, r107_87, r107_90, r107_91, r107_94, r107_95, r107_96, r107_99, r107_102, r107_103, tb_vl_some, tb_vl_none, tb_wF_some, nI_add, pk_mul, e_sub, e_div, tb_nmod, e_dec, e_le, e_lt, e_eq, e_eq0, e_lt0, e_0le, e_0lt, e_le0, if_true, if_false, not_true_eq_false, not_false_eq_true, ite_true, ite_false, Nat.reduceAdd, Nat.reduceMul, Nat.reduceLeDiff, Nat.reduceLT, Nat.reduceEqDiff, Nat.reduceSub, ↓reduceIte, Nat.reduceDiv, Nat.reduceMod]
  · simp (disch := first | assumption | omega | exact tb_sm0 | exact tb_sm1 _ | exact tb_sm2 _ _ | exact tb_sm3 _ _ _ | exact tb_sm4 _ _ _ _ | exact Or.inl rfl | exact Or.inr rfl | fail) only [r107_0, r107_2, r107_3, r107_4, r107_6, r107_7, r107_10, r107_11, r107_13, r107_14, r107_18, r107_19, r107_22, r107_24, r107_25, r107_28, r107_29, r107_31, r107_32, r107_33, r107_34, r107_37, r107_38, r107_39, r107_40, r107_41, r107_44, r107_45, r107_48, r107_49, r107_51, r107_52, r107_53, r107_54, r107_57, r107_58, r107_59, r107_60, r107_61, r107_64, r107_66, r107_67, r107_70, r107_71, r107_74, r107_75, r107_76, r107_78, r107_81, r107_84, r107_86, r107_87, r107_90, r107_91, r107_94, r107_95, r107_96, r107_99, r107_102, r107_103, c, tb_vl_some, tb_vl_none, tb_wF_some, nI_add, pk_mul, e_sub, e_div, tb_nmod, e_dec, e_le, e_lt, e_eq, e_eq0, e_lt0, e_0le, e_0lt, e_le0, if_true, if_false, not_true_eq_false, not_false_eq_true, ite_true, ite_false, Nat.reduceAdd, Nat.reduceMul, Nat.reduceLeDiff, Nat.reduceLT, Nat.reduceEqDiff, Nat.reduceSub, ↓reduceIte, Nat.reduceDiv, Nat.reduceMod]
theorem m_kindAt {m t : Nat} {s : Nat → Nat} (hM : tb_MS h m s) (hI : sp_I s) (ht : t < 4) : tb_wp E d 107 0 [.ref m, .int (nI t), .long 0, .long 0, .long 0, .long 0] [] h nx 0 0 Q = Q (some (.int (nI (sp_kd s t)))) h nx := by
  simp (disch := first | assumption | omega | exact tb_sm0 | exact tb_sm1 _ | exact tb_sm2 _ _ | exact tb_sm3 _ _ _ | exact tb_sm4 _ _ _ _ | exact Or.inl rfl | exact Or.inr rfl | fail) only [r107_0, r107_2, r107_3, r107_4, r107_6, r107_7, r107_10, r107_11, r107_13, r107_14, r107_18, r107_19, r107_22, r107_24, r107_25, r107_28, r107_29, r107_31, r107_32, r107_33, r107_34, r107_37, r107_38, r107_39, r107_40, r107_41, r107_44, r107_45, r107_48, r107_49, r107_51, r107_52, r107_53, r107_54, r107_57, r107_58, r107_59, r107_60, r107_61, r107_64, r107_66, r107_67, r107_70, r107_71, r107_74, r107_75, r107_76, r107_78, r107_81, r107_84, r107_86, r107_87, r107_90, r107_91, r107_94, r107_95, r107_96, r107_99, r107_102, r107_103]
  rw [m_kindAt_o hM hI (by decide) ht, m_kindAt_o hM hI (by decide) ht, m_kindAt_o hM hI (by decide) ht, m_kindAt_o hM hI (by decide) ht]
  simp (disch := first | assumption | omega | exact tb_sm0 | exact tb_sm1 _ | exact tb_sm2 _ _ | exact tb_sm3 _ _ _ | exact tb_sm4 _ _ _ _ | exact Or.inl rfl | exact Or.inr rfl | fail) only [r107_5, r107_6, r107_7, r107_102, r107_103, nI_add, pk_mul, e_sub, e_div, tb_nmod, e_dec, e_le, e_lt, e_eq, e_eq0, e_lt0, e_0le, e_0lt, e_le0, if_true, if_false, not_true_eq_false, not_false_eq_true, ite_true, ite_false, Nat.reduceAdd, Nat.reduceMul, Nat.reduceLeDiff, Nat.reduceLT, Nat.reduceEqDiff, Nat.reduceSub, ↓reduceIte, Nat.reduceDiv, Nat.reduceMod]
  have e : (if sp_rank s 3 = t then nI 3 else if sp_rank s 2 = t then nI 2 else if sp_rank s 1 = t then nI 1 else if sp_rank s 0 = t then nI 0 else (-5 : Int32)) = nI (sp_kd s t) := by
    have hh := sp_rank_all s ht
    unfold sp_kd
    split
    · rfl
    · split
      · rfl
      · split
        · rfl
        · rw [if_pos]
          rcases hh with q | q | q | q
          · exact q
          · exact absurd q (by assumption)
          · exact absurd q (by assumption)
          · exact absurd q (by assumption)
  rw [e]
end M2
