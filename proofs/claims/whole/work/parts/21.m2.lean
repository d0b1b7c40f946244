/-! THE REFERENCE: rest, sliding, a tick -/
theorem va_up_s {f : Nat → Nat} {k v : Nat} : va_up f k v k = v := by simp [va_up]
theorem va_up_n {f : Nat → Nat} {k v j : Nat} (h : j ≠ k) : va_up f k v j = f j := by simp [va_up, h]
def sp_rest (s : Nat → Nat) (b : Nat) : Prop := ∀ k, k < 32 → ¬ sp_why s b (k / 4) (k % 4) = 0
def sp_lt (s : Nat → Nat) (i j : Nat) : Nat := if s (5 + i) < s (5 + j) ∨ (s (5 + i) = s (5 + j) ∧ i < j) then 1 else 0
def sp_rank (s : Nat → Nat) (k : Nat) : Nat := sp_lt s 0 k + sp_lt s 1 k + sp_lt s 2 k + sp_lt s 3 k
def sp_kd (s : Nat → Nat) (t : Nat) : Nat := if sp_rank s 3 = t then 3 else if sp_rank s 2 = t then 2 else if sp_rank s 1 = t then 1 else 0
theorem sp_rank_all (s : Nat → Nat) {t : Nat} (ht : t < 4) : sp_rank s 0 = t ∨ sp_rank s 1 = t ∨ sp_rank s 2 = t ∨ sp_rank s 3 = t := by
  unfold sp_rank sp_lt
  generalize s (5 + 0) = x0
  generalize s (5 + 1) = x1
  generalize s (5 + 2) = x2
  generalize s (5 + 3) = x3
  have e1 : ∀ (a b : Nat) (i j : Nat), i < j → (if a < b ∨ (a = b ∧ i < j) then 1 else 0) = (if a ≤ b then 1 else 0 : Nat) := by
    intro a b i j h
    by_cases q : a ≤ b
    · rw [if_pos q, if_pos]; omega
    · rw [if_neg q, if_neg]; omega
  have e2 : ∀ (a b : Nat) (i j : Nat), j ≤ i → (if a < b ∨ (a = b ∧ i < j) then 1 else 0) = (if a < b then 1 else 0 : Nat) := by
    intro a b i j h
    by_cases q : a < b
    · rw [if_pos q, if_pos]; omega
    · rw [if_neg q, if_neg]; omega
  rw [e1 x0 x1 0 1 (by decide), e1 x0 x2 0 2 (by decide), e1 x0 x3 0 3 (by decide), e1 x1 x2 1 2 (by decide), e1 x1 x3 1 3 (by decide), e1 x2 x3 2 3 (by decide), e2 x0 x0 0 0 (by decide), e2 x1 x0 1 0 (by decide), e2 x2 x0 2 0 (by decide), e2 x3 x0 3 0 (by decide), e2 x1 x1 1 1 (by decide), e2 x2 x1 2 1 (by decide), e2 x3 x1 3 1 (by decide), e2 x2 x2 2 2 (by decide), e2 x3 x2 3 2 (by decide), e2 x3 x3 3 3 (by decide)]
  have f : ∀ (a b : Nat), (if a ≤ b then 1 else 0 : Nat) + (if b < a then 1 else 0) = 1 := by
    intro a b
    by_cases q : a ≤ b
    · rw [if_pos q, if_neg (by omega)]
    · rw [if_neg q, if_pos (by omega)]
  by_cases a1 : x0 ≤ x1 <;> by_cases a2 : x0 ≤ x2 <;> by_cases a3 : x0 ≤ x3 <;> by_cases a4 : x1 ≤ x2 <;> by_cases a5 : x1 ≤ x3 <;> by_cases a6 : x2 ≤ x3 <;>
  · have b1 := f x0 x1
    have b2 := f x0 x2
    have b3 := f x0 x3
    have b4 := f x1 x2
    have b5 := f x1 x3
    have b6 := f x2 x3
    simp only [a1, a2, a3, a4, a5, a6, if_true, if_false, Nat.lt_irrefl] at b1 b2 b3 b4 b5 b6 ⊢
    omega
theorem sp_kd_ok (s : Nat → Nat) {t : Nat} (ht : t < 4) : sp_kd s t < 4 ∧ sp_rank s (sp_kd s t) = t := by
  have h := sp_rank_all s ht
  unfold sp_kd
  split
  · exact ⟨by decide, by assumption⟩
  · split
    · exact ⟨by decide, by assumption⟩
    · split
      · exact ⟨by decide, by assumption⟩
      · refine ⟨by decide, ?_⟩
        rcases h with h | h | h | h
        · exact h
        · exact absurd h (by assumption)
        · exact absurd h (by assumption)
        · exact absurd h (by assumption)
def sp_g (s : Nat → Nat) (b c k : Nat) : Nat := if s (48 + 32 * b + 4 * c + k) < sp_room s b c then s (48 + 32 * b + 4 * c + k) else sp_room s b c
def sp_sl (s : Nat → Nat) (b c k : Nat) : Nat → Nat :=
  let g := sp_g s b c k
  let u := g / s 3
  let s1 := va_up s (48 + 32 * b + 4 * c + k) (s (48 + 32 * b + 4 * c + k) - g)
  let s2 := va_up s1 (23 + b) (s1 (23 + b) + u)
  if c = 7 then
    let s3 := va_up s2 (28 + 4 * b + k) (s2 (28 + 4 * b + k) + (g - u))
    va_up s3 (18 + b) (s3 (18 + b) + (g - u))
  else va_up s2 (48 + 32 * b + 4 * (c + 1) + k) (s2 (48 + 32 * b + 4 * (c + 1) + k) + (g - u))
def sp_cm (s cm : Nat → Nat) (b c k : Nat) : Nat → Nat := if c = 7 then cm else va_up cm (4 * c + 4 + k) (if sp_g s b c k ≤ sp_g s b c k / s 3 then 0 else 1)
def tb_MC (h : tb_heap) (m : Nat) (s cm : Nat → Nat) : Prop := tb_MS h m s ∧ tb_isA h (m + 7) 0 32 (fun j => nI (cm j))
theorem tb_MC.st {h : tb_heap} {m : Nat} {s cm : Nat → Nat} (hM : tb_MC h m s cm) {j v : Nat} (hj : j < 32) {K : tb_heap → Prop} (hK : ∀ h', tb_MC h' m s (va_up cm j v) → (∀ q, q ≠ m + 7 → h' q = h q) → K h') : tb_wF (tb_stv h 0 (m + 7) (nI j) (nI v)) K := by
  refine hM.2.st hj (by decide) (fun h' hA hF => hK h' ⟨hM.1.to (hF _ (by omega)) (hF _ (by omega)) (fun _ _ => rfl), hA.to rfl (fun i hi => ?_)⟩ hF)
  unfold upd va_up
  dsimp only
  split <;> rfl
section M2
variable {E : tb_env} {d : Nat} {h : tb_heap} {nx : Nat} {Q : Option Value → tb_heap → Nat → Prop}
theorem m_rest_0 {m b : Nat} {s : Nat → Nat} (hM : tb_MS h m s) (hI : sp_I s) (hb : b < 5) (hd : 4 ≤ d) (n : Nat) : ∀ i, i + n = 32 → tb_wp E d 106 4 [.ref m, .int (nI b), .int (nI 0), .int (nI i)] [] h nx 0 0 Q = Q (some (.int (nI 0))) h nx := by
  induction n with
  | zero =>
    intro i hi
    simp (disch := first | assumption | omega | exact tb_sm0 | exact tb_sm1 _ | exact tb_sm2 _ _ | exact tb_sm3 _ _ _ | exact tb_sm4 _ _ _ _ | exact Or.inl rfl | exact Or.inr rfl | fail) only [r106_4, r106_5, r106_7, nI_add, pk_mul, e_sub, e_div, tb_nmod, e_dec, e_le, e_lt, e_eq, e_eq0, e_lt0, e_0le, e_0lt, e_le0, if_true, if_false, not_true_eq_false, not_false_eq_true, ite_true, ite_false, Nat.reduceAdd, Nat.reduceMul, Nat.reduceLeDiff, Nat.reduceLT, Nat.reduceEqDiff, Nat.reduceSub, ↓reduceIte, Nat.reduceDiv, Nat.reduceMod]
    rw [if_pos (by omega)]
    simp (disch := first | assumption | omega | exact tb_sm0 | exact tb_sm1 _ | exact tb_sm2 _ _ | exact tb_sm3 _ _ _ | exact tb_sm4 _ _ _ _ | exact Or.inl rfl | exact Or.inr rfl | fail) only [r106_0, r106_1, r106_2, r106_3, r106_5, r106_7, r106_10, r106_11, r106_14, r106_15, r106_16, r106_17, r106_18, r106_19, r106_20, r106_21, r106_22, r106_25, r106_28, r106_29, r106_32, r106_33, r106_34, r106_37, r106_40, r106_41, nI_add, pk_mul, e_sub, e_div, tb_nmod, e_dec, e_le, e_lt, e_eq, e_eq0, e_lt0, e_0le, e_0lt, e_le0, if_true, if_false, not_true_eq_false, not_false_eq_true, ite_true, ite_false, Nat.reduceAdd, Nat.reduceMul, Nat.reduceLeDiff, Nat.reduceLT, Nat.reduceEqDiff, Nat.reduceSub, ↓reduceIte, Nat.reduceDiv, Nat.reduceMod]
  | succ n ih =>
    intro i hi
    simp (disch := first | assumption | omega | exact tb_sm0 | exact tb_sm1 _ | exact tb_sm2 _ _ | exact tb_sm3 _ _ _ | exact tb_sm4 _ _ _ _ | exact Or.inl rfl | exact Or.inr rfl | fail) only [r106_4, r106_5, r106_7, nI_add, pk_mul, e_sub, e_div, tb_nmod, e_dec, e_le, e_lt, e_eq, e_eq0, e_lt0, e_0le, e_0lt, e_le0, if_true, if_false, not_true_eq_false, not_false_eq_true, ite_true, ite_false, Nat.reduceAdd, Nat.reduceMul, Nat.reduceLeDiff, Nat.reduceLT, Nat.reduceEqDiff, Nat.reduceSub, ↓reduceIte, Nat.reduceDiv, Nat.reduceMod]
    rw [if_neg (by omega)]
    simp (disch := first | assumption | omega | exact tb_sm0 | exact tb_sm1 _ | exact tb_sm2 _ _ | exact tb_sm3 _ _ _ | exact tb_sm4 _ _ _ _ | exact Or.inl rfl | exact Or.inr rfl | fail) only [r106_0, r106_1, r106_2, r106_3, r106_5, r106_7, r106_10, r106_11, r106_14, r106_15, r106_16, r106_17, r106_18, r106_19, r106_20, r106_21, r106_22, r106_25, r106_28, r106_29, r106_32, r106_33, r106_34, r106_37, r106_40, r106_41, nI_add, pk_mul, e_sub, e_div, tb_nmod, e_dec, e_le, e_lt, e_eq, e_eq0, e_lt0, e_0le, e_0lt, e_le0, if_true, if_false, not_true_eq_false, not_false_eq_true, ite_true, ite_false, Nat.reduceAdd, Nat.reduceMul, Nat.reduceLeDiff, Nat.reduceLT, Nat.reduceEqDiff, Nat.reduceSub, ↓reduceIte, Nat.reduceDiv, Nat.reduceMod]
    exact ih (i + 1) (by omega)
theorem m_rest_1 {m b : Nat} {s : Nat → Nat} (hM : tb_MS h m s) (hI : sp_I s) (hb : b < 5) (hd : 4 ≤ d) (n : Nat) : ∀ i, i + n = 32 → (∀ k, i ≤ k → k < 32 → ¬ sp_why s b (k / 4) (k % 4) = 0) → tb_wp E d 106 4 [.ref m, .int (nI b), .int (nI 1), .int (nI i)] [] h nx 0 0 Q = Q (some (.int (nI 1))) h nx := by
  have h4 : ¬ nI 4 = 0 := by decide
  have hO := hM.O
  induction n with
  | zero =>
    intro i hi hr
    simp (disch := first | assumption | omega | exact tb_sm0 | exact tb_sm1 _ | exact tb_sm2 _ _ | exact tb_sm3 _ _ _ | exact tb_sm4 _ _ _ _ | exact Or.inl rfl | exact Or.inr rfl | fail) only [r106_4, r106_5, r106_7, nI_add, pk_mul, e_sub, e_div, tb_nmod, e_dec, e_le, e_lt, e_eq, e_eq0, e_lt0, e_0le, e_0lt, e_le0, if_true, if_false, not_true_eq_false, not_false_eq_true, ite_true, ite_false, Nat.reduceAdd, Nat.reduceMul, Nat.reduceLeDiff, Nat.reduceLT, Nat.reduceEqDiff, Nat.reduceSub, ↓reduceIte, Nat.reduceDiv, Nat.reduceMod]
    rw [if_pos (by omega)]
    simp (disch := first | assumption | omega | exact tb_sm0 | exact tb_sm1 _ | exact tb_sm2 _ _ | exact tb_sm3 _ _ _ | exact tb_sm4 _ _ _ _ | exact Or.inl rfl | exact Or.inr rfl | fail) only [r106_0, r106_1, r106_2, r106_3, r106_5, r106_7, r106_10, r106_11, r106_14, r106_15, r106_16, r106_17, r106_18, r106_19, r106_20, r106_21, r106_22, r106_25, r106_28, r106_29, r106_32, r106_33, r106_34, r106_37, r106_40, r106_41, nI_add, pk_mul, e_sub, e_div, tb_nmod, e_dec, e_le, e_lt, e_eq, e_eq0, e_lt0, e_0le, e_0lt, e_le0, if_true, if_false, not_true_eq_false, not_false_eq_true, ite_true, ite_false, Nat.reduceAdd, Nat.reduceMul, Nat.reduceLeDiff, Nat.reduceLT, Nat.reduceEqDiff, Nat.reduceSub, ↓reduceIte, Nat.reduceDiv, Nat.reduceMod]
  | succ n ih =>
    intro i hi hr
    have hw := hr i (Nat.le_refl i) (by omega)
    have hwl : sp_why s b (i / 4) (i % 4) ≤ 3 := by unfold sp_why; split; decide; split; decide; split <;> decide
    simp (disch := first | assumption | omega | exact tb_sm0 | exact tb_sm1 _ | exact tb_sm2 _ _ | exact tb_sm3 _ _ _ | exact tb_sm4 _ _ _ _ | exact Or.inl rfl | exact Or.inr rfl | fail) only [r106_4, r106_5, r106_7, nI_add, pk_mul, e_sub, e_div, tb_nmod, e_dec, e_le, e_lt, e_eq, e_eq0, e_lt0, e_0le, e_0lt, e_le0, if_true, if_false, not_true_eq_false, not_false_eq_true, ite_true, ite_false, Nat.reduceAdd, Nat.reduceMul, Nat.reduceLeDiff, Nat.reduceLT, Nat.reduceEqDiff, Nat.reduceSub, ↓reduceIte, Nat.reduceDiv, Nat.reduceMod]
    rw [if_neg (by omega)]
    simp (disch := first | assumption | omega | exact tb_sm0 | exact tb_sm1 _ | exact tb_sm2 _ _ | exact tb_sm3 _ _ _ | exact tb_sm4 _ _ _ _ | exact Or.inl rfl | exact Or.inr rfl | fail) only [r106_0, r106_1, r106_2, r106_3, r106_5, r106_7, r106_10, r106_11, r106_14, r106_15, r106_16, r106_17, r106_18, r106_19, r106_20, r106_21, r106_22, r106_25, r106_28, r106_29, r106_32, r106_33, r106_34, r106_37, r106_40, r106_41, m_why hM hI, hw, tb_vl_some, tb_vl_none, tb_wF_some, nI_add, pk_mul, e_sub, e_div, tb_nmod, e_dec, e_le, e_lt, e_eq, e_eq0, e_lt0, e_0le, e_0lt, e_le0, if_true, if_false, not_true_eq_false, not_false_eq_true, ite_true, ite_false, Nat.reduceAdd, Nat.reduceMul, Nat.reduceLeDiff, Nat.reduceLT, Nat.reduceEqDiff, Nat.reduceSub, ↓reduceIte, Nat.reduceDiv, Nat.reduceMod]
    exact ih (i + 1) (by omega) (fun k hk => hr k (by omega))
theorem m_rest_2 {m b : Nat} {s : Nat → Nat} (hM : tb_MS h m s) (hI : sp_I s) (hb : b < 5) (hd : 4 ≤ d) (n : Nat) : ∀ i, i + n = 32 → (∃ k, i ≤ k ∧ k < 32 ∧ sp_why s b (k / 4) (k % 4) = 0) → tb_wp E d 106 4 [.ref m, .int (nI b), .int (nI 1), .int (nI i)] [] h nx 0 0 Q = Q (some (.int (nI 0))) h nx := by
  have h4 : ¬ nI 4 = 0 := by decide
  have hO := hM.O
  induction n with
  | zero =>
    intro i hi hr
    obtain ⟨k, h1, h2, -⟩ := hr
    omega
  | succ n ih =>
    intro i hi hr
    have hwl : sp_why s b (i / 4) (i % 4) ≤ 3 := by unfold sp_why; split; decide; split; decide; split <;> decide
    simp (disch := first | assumption | omega | exact tb_sm0 | exact tb_sm1 _ | exact tb_sm2 _ _ | exact tb_sm3 _ _ _ | exact tb_sm4 _ _ _ _ | exact Or.inl rfl | exact Or.inr rfl | fail) only [r106_4, r106_5, r106_7, nI_add, pk_mul, e_sub, e_div, tb_nmod, e_dec, e_le, e_lt, e_eq, e_eq0, e_lt0, e_0le, e_0lt, e_le0, if_true, if_false, not_true_eq_false, not_false_eq_true, ite_true, ite_false, Nat.reduceAdd, Nat.reduceMul, Nat.reduceLeDiff, Nat.reduceLT, Nat.reduceEqDiff, Nat.reduceSub, ↓reduceIte, Nat.reduceDiv, Nat.reduceMod]
    rw [if_neg (by omega)]
    by_cases hw : sp_why s b (i / 4) (i % 4) = 0
    · simp (disch := first | assumption | omega | exact tb_sm0 | exact tb_sm1 _ | exact tb_sm2 _ _ | exact tb_sm3 _ _ _ | exact tb_sm4 _ _ _ _ | exact Or.inl rfl | exact Or.inr rfl | fail) only [r106_0, r106_1, r106_2, r106_3, r106_5, r106_7, r106_10, r106_11, r106_14, r106_15, r106_16, r106_17, r106_18, r106_19, r106_20, r106_21, r106_22, r106_25, r106_28, r106_29, r106_32, r106_33, r106_34, r106_37, r106_40, r106_41, m_why hM hI, hw, tb_vl_some, tb_vl_none, tb_wF_some, nI_add, pk_mul, e_sub, e_div, tb_nmod, e_dec, e_le, e_lt, e_eq, e_eq0, e_lt0, e_0le, e_0lt, e_le0, if_true, if_false, not_true_eq_false, not_false_eq_true, ite_true, ite_false, Nat.reduceAdd, Nat.reduceMul, Nat.reduceLeDiff, Nat.reduceLT, Nat.reduceEqDiff, Nat.reduceSub, ↓reduceIte, Nat.reduceDiv, Nat.reduceMod]
      exact m_rest_0 hM hI hb hd n (i + 1) (by omega)
    · simp (disch := first | assumption | omega | exact tb_sm0 | exact tb_sm1 _ | exact tb_sm2 _ _ | exact tb_sm3 _ _ _ | exact tb_sm4 _ _ _ _ | exact Or.inl rfl | exact Or.inr rfl | fail) only [r106_0, r106_1, r106_2, r106_3, r106_5, r106_7, r106_10, r106_11, r106_14, r106_15, r106_16, r106_17, r106_18, r106_19, r106_20, r106_21, r106_22, r106_25, r106_28, r106_29, r106_32, r106_33, r106_34, r106_37, r106_40, r106_41, m_why hM hI, hw, tb_vl_some, tb_vl_none, tb_wF_some, nI_add, pk_mul, e_sub, e_div, tb_nmod, e_dec, e_le, e_lt, e_eq, e_eq0, e_lt0, e_0le, e_0lt, e_le0, if_true, if_false, not_true_eq_false, not_false_eq_true, ite_true, ite_false, Nat.reduceAdd, Nat.reduceMul, Nat.reduceLeDiff, Nat.reduceLT, Nat.reduceEqDiff, Nat.reduceSub, ↓reduceIte, Nat.reduceDiv, Nat.reduceMod]
      refine ih (i + 1) (by omega) ?_
      obtain ⟨k, h1, h2, h3⟩ := hr
      refine ⟨k, ?_, h2, h3⟩
      rcases Nat.eq_or_lt_of_le h1 with q | q
      · subst q; exact absurd h3 hw
      · exact q
theorem m_isAtRest_t {m b : Nat} {s : Nat → Nat} (hM : tb_MS h m s) (hI : sp_I s) (hb : b < 5) (hd : 4 ≤ d) (hr : sp_rest s b) : tb_wp E d 106 0 [.ref m, .int (nI b), .long 0, .long 0] [] h nx 0 0 Q = Q (some (.int (nI 1))) h nx := by
  simp (disch := first | assumption | omega | exact tb_sm0 | exact tb_sm1 _ | exact tb_sm2 _ _ | exact tb_sm3 _ _ _ | exact tb_sm4 _ _ _ _ | exact Or.inl rfl | exact Or.inr rfl | fail) only [r106_0, r106_1, r106_2, r106_3, r106_5, r106_7, r106_10, r106_11, r106_14, r106_15, r106_16, r106_17, r106_18, r106_19, r106_20, r106_21, r106_22, r106_25, r106_28, r106_29, r106_32, r106_33, r106_34, r106_37, r106_40, r106_41]
  exact m_rest_1 hM hI hb hd 32 0 rfl (fun k _ hk => hr k hk)
theorem m_isAtRest_f {m b : Nat} {s : Nat → Nat} (hM : tb_MS h m s) (hI : sp_I s) (hb : b < 5) (hd : 4 ≤ d) (hr : ¬ sp_rest s b) : tb_wp E d 106 0 [.ref m, .int (nI b), .long 0, .long 0] [] h nx 0 0 Q = Q (some (.int (nI 0))) h nx := by
  simp (disch := first | assumption | omega | exact tb_sm0 | exact tb_sm1 _ | exact tb_sm2 _ _ | exact tb_sm3 _ _ _ | exact tb_sm4 _ _ _ _ | exact Or.inl rfl | exact Or.inr rfl | fail) only [r106_0, r106_1, r106_2, r106_3, r106_5, r106_7, r106_10, r106_11, r106_14, r106_15, r106_16, r106_17, r106_18, r106_19, r106_20, r106_21, r106_22, r106_25, r106_28, r106_29, r106_32, r106_33, r106_34, r106_37, r106_40, r106_41]
  refine m_rest_2 hM hI hb hd 32 0 rfl ?_
  apply Classical.byContradiction
  intro q
  exact hr (fun k hk hw => q ⟨k, Nat.zero_le k, hk, hw⟩)
theorem m_kindAt_i {m k j a : Nat} {t f : Value} {s : Nat → Nat} (hM : tb_MS h m s) (hI : sp_I s) (hk : k < 4) (hj : j < 4) : tb_wp E d 108 16 [.ref m, t, f, .int (nI k), .int (nI a), .int (nI j)] [] h nx 0 0 Q = tb_wp E d 108 16 [.ref m, t, f, .int (nI k), .int (nI (a + sp_lt s j k)), .int (nI (j + 1))] [] h nx 0 0 Q := by
  have h1 := hM.g
  have g1 := hI.2.2.1 j hj
  have g2 := hI.2.2.1 k hk
  conv => lhs; simp (disch := first | assumption | omega | exact tb_sm0 | exact tb_sm1 _ | exact tb_sm2 _ _ | exact tb_sm3 _ _ _ | exact tb_sm4 _ _ _ _ | exact Or.inl rfl | exact Or.inr rfl | fail) only [r108_16, r108_18, r108_19, nI_add, pk_mul, e_sub, e_div, tb_nmod, e_dec, e_le, e_lt, e_eq, e_eq0, e_lt0, e_0le, e_0lt, e_le0, if_true, if_false, not_true_eq_false, not_false_eq_true, ite_true, ite_false, Nat.reduceAdd, Nat.reduceMul, Nat.reduceLeDiff, Nat.reduceLT, Nat.reduceEqDiff, Nat.reduceSub, ↓reduceIte, Nat.reduceDiv, Nat.reduceMod]
  rw [if_neg (by omega)]
  unfold sp_lt
  by_cases c1 : s (5 + j) < s (5 + k)
  · simp (disch := first | assumption | omega | exact tb_sm0 | exact tb_sm1 _ | exact tb_sm2 _ _ | exact tb_sm3 _ _ _ | exact tb_sm4 _ _ _ _ | exact Or.inl rfl | exact Or.inr rfl | fail) only [r108_0, r108_2, r108_3, r108_4, r108_5, r108_6, r108_7, r108_10, r108_11, r108_13, r108_14, r108_18, r108_19, r108_22, r108_24, r108_25, r108_28, r108_29, r108_31, r108_32, r108_33, r108_34, r108_37, r108_38, r108_39, r108_40, r108_41, r108_44, r108_45, r108_48, r108_49, r108_51, r108_52, r108_53, r108_54, r108_57, r108_58, r108_59, r108_60, r108_61, r108_64, r108_66, r108_67, r108_70, r108_71, r108_74, r108_75, r108_76, r108_78, r108_81, r108_84, r108_86, r108_87, r108_90, r108_91, r108_94, r108_95, r108_96, r108_99, r108_102, r108_103, h1, hM.ld, c1, true_or, tb_vl_some, tb_vl_none, tb_wF_some, nI_add, pk_mul, e_sub, e_div, tb_nmod, e_dec, e_le, e_lt, e_eq, e_eq0, e_lt0, e_0le, e_0lt, e_le0, if_true, if_false, not_true_eq_false, not_false_eq_true, ite_true, ite_false, Nat.reduceAdd, Nat.reduceMul, Nat.reduceLeDiff, Nat.reduceLT, Nat.reduceEqDiff, Nat.reduceSub, ↓reduceIte, Nat.reduceDiv, Nat.reduceMod]
  · by_cases c2 : s (5 + j) = s (5 + k)
    · by_cases c3 : j < k
      · have c3' : ¬ k ≤ j := by omega
        simp (disch := first | assumption | omega | exact tb_sm0 | exact tb_sm1 _ | exact tb_sm2 _ _ | exact tb_sm3 _ _ _ | exact tb_sm4 _ _ _ _ | exact Or.inl rfl | exact Or.inr rfl | fail) only [r108_0, r108_2, r108_3, r108_4, r108_5, r108_6, r108_7, r108_10, r108_11, r108_13, r108_14, r108_18, r108_19, r108_22, r108_24, r108_25, r108_28, r108_29, r108_31, r108_32, r108_33, r108_34, r108_37, r108_38, r108_39, r108_40, r108_41, r108_44, r108_45, r108_48, r108_49, r108_51, r108_52, r108_53, r108_54, r108_57, r108_58, r108_59, r108_60, r108_61, r108_64, r108_66, r108_67, r108_70, r108_71, r108_74, r108_75, r108_76, r108_78, r108_81, r108_84, r108_86, r108_87, r108_90, r108_91, r108_94, r108_95, r108_96, r108_99, r108_102, r108_103, h1, hM.ld, c2, c3, c3', Nat.lt_irrefl, false_or, true_and, tb_vl_some, tb_vl_none, tb_wF_some, nI_add, pk_mul, e_sub, e_div, tb_nmod, e_dec, e_le, e_lt, e_eq, e_eq0, e_lt0, e_0le, e_0lt, e_le0, if_true, if_false, not_true_eq_false, not_false_eq_true, ite_true, ite_false, Nat.reduceAdd, Nat.reduceMul, Nat.reduceLeDiff, Nat.reduceLT, Nat.reduceEqDiff, Nat.reduceSub, ↓reduceIte, Nat.reduceDiv, Nat.reduceMod]
      · have c3' : k ≤ j := by omega
        simp (disch := first | assumption | omega | exact tb_sm0 | exact tb_sm1 _ | exact tb_sm2 _ _ | exact tb_sm3 _ _ _ | exact tb_sm4 _ _ _ _ | exact Or.inl rfl | exact Or.inr rfl | fail) only [r108_0, r108_2, r108_3, r108_4, r108_5, r108_6, r108_7, r108_10, r108_11, r108_13, r108_14, r108_18, r108_19, r108_22, r108_24, r108_25, r108_28, r108_29, r108_31, r108_32, r108_33, r108_34, r108_37, r108_38, r108_39, r108_40, r108_41, r108_44, r108_45, r108_48, r108_49, r108_51, r108_52, r108_53, r108_54, r108_57, r108_58, r108_59, r108_60, r108_61, r108_64, r108_66, r108_67, r108_70, r108_71, r108_74, r108_75, r108_76, r108_78, r108_81, r108_84, r108_86, r108_87, r108_90, r108_91, r108_94, r108_95, r108_96, r108_99, r108_102, r108_103, h1, hM.ld, c2, c3, c3', Nat.lt_irrefl, false_or, true_and, and_false, tb_vl_some, tb_vl_none, tb_wF_some, nI_add, pk_mul, e_sub, e_div, tb_nmod, e_dec, e_le, e_lt, e_eq, e_eq0, e_lt0, e_0le, e_0lt, e_le0, if_true, if_false, not_true_eq_false, not_false_eq_true, ite_true, ite_false, Nat.reduceAdd, Nat.reduceMul, Nat.reduceLeDiff, Nat.reduceLT, Nat.reduceEqDiff, Nat.reduceSub, ↓reduceIte, Nat.reduceDiv, Nat.reduceMod, Nat.add_zero]
    · simp (disch := first | assumption | omega | exact tb_sm0 | exact tb_sm1 _ | exact tb_sm2 _ _ | exact tb_sm3 _ _ _ | exact tb_sm4 _ _ _ _ | exact Or.inl rfl | exact Or.inr rfl | fail) only [r108_0, r108_2, r108_3, r108_4, r108_5, r108_6, r108_7, r108_10, r108_11, r108_13, r108_14, r108_18, r108_19, r108_22, r108_24, r108_25, r108_28, r108_29, r108_31, r108_32, r108_33, r108_34, r108_37, r108_38, r108_39, r108_40, r108_41, r108_44, r108_45, r108_48, r108_49, r108_51, r108_52, r108_53, r108_54, r108_57, r108_58, r108_59, r108_60, r108_61, r108_64, r108_66, r108_67, r108_70, r108_71, r108_74, r108_75, r108_76, r108_78, r108_81, r108_84, r108_86, r108_87, r108_90, r108_91, r108_94, r108_95, r108_96, r108_99, r108_102, r108_103, h1, hM.ld, c1, c2, false_or, false_and, tb_vl_some, tb_vl_none, tb_wF_some, nI_add, pk_mul, e_sub, e_div, tb_nmod, e_dec, e_le, e_lt, e_eq, e_eq0, e_lt0, e_0le, e_0lt, e_le0, if_true, if_false, not_true_eq_false, not_false_eq_true, ite_true, ite_false, Nat.reduceAdd, Nat.reduceMul, Nat.reduceLeDiff, Nat.reduceLT, Nat.reduceEqDiff, Nat.reduceSub, ↓reduceIte, Nat.reduceDiv, Nat.reduceMod, Nat.add_zero]
theorem m_kindAt_o {m k t : Nat} {f : Int32} {y z : Value} {s : Nat → Nat} (hM : tb_MS h m s) (hI : sp_I s) (hk : k < 4) (ht : t < 4) : tb_wp E d 108 5 [.ref m, .int (nI t), .int f, .int (nI k), y, z] [] h nx 0 0 Q = tb_wp E d 108 5 [.ref m, .int (nI t), .int (if sp_rank s k = t then nI k else f), .int (nI (k + 1)), .int (nI (sp_rank s k)), .int (nI 4)] [] h nx 0 0 Q := by
  have hr : sp_rank s k < 5 := by
    unfold sp_rank
    have q : ∀ i j, sp_lt s i j ≤ 1 := by intro i j; unfold sp_lt; split <;> decide
    have := q 0 k; have := q 1 k; have := q 2 k; have := q 3 k
    omega
  conv => lhs; simp (disch := first | assumption | omega | exact tb_sm0 | exact tb_sm1 _ | exact tb_sm2 _ _ | exact tb_sm3 _ _ _ | exact tb_sm4 _ _ _ _ | exact Or.inl rfl | exact Or.inr rfl | fail) only [r108_5, r108_6, r108_7, nI_add, pk_mul, e_sub, e_div, tb_nmod, e_dec, e_le, e_lt, e_eq, e_eq0, e_lt0, e_0le, e_0lt, e_le0, if_true, if_false, not_true_eq_false, not_false_eq_true, ite_true, ite_false, Nat.reduceAdd, Nat.reduceMul, Nat.reduceLeDiff, Nat.reduceLT, Nat.reduceEqDiff, Nat.reduceSub, ↓reduceIte, Nat.reduceDiv, Nat.reduceMod]
  rw [if_neg (by omega)]
  simp (disch := first | assumption | omega | exact tb_sm0 | exact tb_sm1 _ | exact tb_sm2 _ _ | exact tb_sm3 _ _ _ | exact tb_sm4 _ _ _ _ | exact Or.inl rfl | exact Or.inr rfl | fail) only [r108_10, r108_11, r108_13, r108_14]
  rw [m_kindAt_i hM hI hk (by decide), m_kindAt_i hM hI hk (by decide), m_kindAt_i hM hI hk (by decide), m_kindAt_i hM hI hk (by decide)]
  rw [show 0 + sp_lt s 0 k + sp_lt s (0 + 1) k + sp_lt s (0 + 1 + 1) k + sp_lt s (0 + 1 + 1 + 1) k = sp_rank s k by unfold sp_rank; simp only [Nat.reduceAdd, Nat.zero_add]]
  conv => lhs; simp (disch := first | assumption | omega | exact tb_sm0 | exact tb_sm1 _ | exact tb_sm2 _ _ | exact tb_sm3 _ _ _ | exact tb_sm4 _ _ _ _ | exact Or.inl rfl | exact Or.inr rfl | fail) only [r108_16, r108_18, r108_19, nI_add, pk_mul, e_sub, e_div, tb_nmod, e_dec, e_le, e_lt, e_eq, e_eq0, e_lt0, e_0le, e_0lt, e_le0, if_true, if_false, not_true_eq_false, not_false_eq_true, ite_true, ite_false, Nat.reduceAdd, Nat.reduceMul, Nat.reduceLeDiff, Nat.reduceLT, Nat.reduceEqDiff, Nat.reduceSub, ↓reduceIte, Nat.reduceDiv, Nat.reduceMod]
  by_cases c : sp_rank s k = t
  · subst c
    simp (disch := first | assumption | omega | exact tb_sm0 | exact tb_sm1 _ | exact tb_sm2 _ _ | exact tb_sm3 _ _ _ | exact tb_sm4 _ _ _ _ | exact Or.inl rfl | exact Or.inr rfl | fail) only [r108_0, r108_2, r108_3, r108_4, r108_6, r108_7, r108_10, r108_11, r108_13, r108_14, r108_18, r108_19, r108_22, r108_24, r108_25, r108_28, r108_29, r108_31, r108_32, r108_33, r108_34, r108_37, r108_38, r108_39, r108_40, r108_41, r108_44, r108_45, r108_48, r108_49, r108_51, r108_52, r108_53, r108_54, r108_57, r108_58, r108_59, r108_60, r108_61, r108_64, r108_66, r108_67, r108_70, r108_71, r108_74, r108_75, r108_76, r108_78, r108_81, r108_84, r108_86, r108_87, r108_90, r108_91, r108_94, r108_95, r108_96, r108_99, r108_102, r108_103, tb_vl_some, tb_vl_none, tb_wF_some, nI_add, pk_mul, e_sub, e_div, tb_nmod, e_dec, e_le, e_lt, e_eq, e_eq0, e_lt0, e_0le, e_0lt, e_le0, if_true, if_false, not_true_eq_false, not_false_eq_true, ite_true, ite_false, Nat.reduceAdd, Nat.reduceMul, Nat.reduceLeDiff, Nat.reduceLT, Nat.reduceEqDiff, Nat.reduceSub, ↓reduceIte, Nat.reduceDiv, Nat.reduceMod]
  · simp (disch := first | assumption | omega | exact tb_sm0 | exact tb_sm1 _ | exact tb_sm2 _ _ | exact tb_sm3 _ _ _ | exact tb_sm4 _ _ _ _ | exact Or.inl rfl | exact Or.inr rfl | fail) only [r108_0, r108_2, r108_3, r108_4, r108_6, r108_7, r108_10, r108_11, r108_13, r108_14, r108_18, r108_19, r108_22, r108_24, r108_25, r108_28, r108_29, r108_31, r108_32, r108_33, r108_34, r108_37, r108_38, r108_39, r108_40, r108_41, r108_44, r108_45, r108_48, r108_49, r108_51, r108_52, r108_53, r108_54, r108_57, r108_58, r108_59, r108_60, r108_61, r108_64, r108_66, r108_67, r108_70, r108_71, r108_74, r108_75, r108_76, r108_78, r108_81, r108_84, r108_86, r108_87, r108_90, r108_91, r108_94, r108_95, r108_96, r108_99, r108_102, r108_103, c, tb_vl_some, tb_vl_none, tb_wF_some, nI_add, pk_mul, e_sub, e_div, tb_nmod, e_dec, e_le, e_lt, e_eq, e_eq0, e_lt0, e_0le, e_0lt, e_le0, if_true, if_false, not_true_eq_false, not_false_eq_true, ite_true, ite_false, Nat.reduceAdd, Nat.reduceMul, Nat.reduceLeDiff, Nat.reduceLT, Nat.reduceEqDiff, Nat.reduceSub, ↓reduceIte, Nat.reduceDiv, Nat.reduceMod]
theorem m_kindAt {m t : Nat} {s : Nat → Nat} (hM : tb_MS h m s) (hI : sp_I s) (ht : t < 4) : tb_wp E d 108 0 [.ref m, .int (nI t), .long 0, .long 0, .long 0, .long 0] [] h nx 0 0 Q = Q (some (.int (nI (sp_kd s t)))) h nx := by
  simp (disch := first | assumption | omega | exact tb_sm0 | exact tb_sm1 _ | exact tb_sm2 _ _ | exact tb_sm3 _ _ _ | exact tb_sm4 _ _ _ _ | exact Or.inl rfl | exact Or.inr rfl | fail) only [r108_0, r108_2, r108_3, r108_4, r108_6, r108_7, r108_10, r108_11, r108_13, r108_14, r108_18, r108_19, r108_22, r108_24, r108_25, r108_28, r108_29, r108_31, r108_32, r108_33, r108_34, r108_37, r108_38, r108_39, r108_40, r108_41, r108_44, r108_45, r108_48, r108_49, r108_51, r108_52, r108_53, r108_54, r108_57, r108_58, r108_59, r108_60, r108_61, r108_64, r108_66, r108_67, r108_70, r108_71, r108_74, r108_75, r108_76, r108_78, r108_81, r108_84, r108_86, r108_87, r108_90, r108_91, r108_94, r108_95, r108_96, r108_99, r108_102, r108_103]
  rw [m_kindAt_o hM hI (by decide) ht, m_kindAt_o hM hI (by decide) ht, m_kindAt_o hM hI (by decide) ht, m_kindAt_o hM hI (by decide) ht]
  simp (disch := first | assumption | omega | exact tb_sm0 | exact tb_sm1 _ | exact tb_sm2 _ _ | exact tb_sm3 _ _ _ | exact tb_sm4 _ _ _ _ | exact Or.inl rfl | exact Or.inr rfl | fail) only [r108_5, r108_6, r108_7, r108_102, r108_103, nI_add, pk_mul, e_sub, e_div, tb_nmod, e_dec, e_le, e_lt, e_eq, e_eq0, e_lt0, e_0le, e_0lt, e_le0, if_true, if_false, not_true_eq_false, not_false_eq_true, ite_true, ite_false, Nat.reduceAdd, Nat.reduceMul, Nat.reduceLeDiff, Nat.reduceLT, Nat.reduceEqDiff, Nat.reduceSub, ↓reduceIte, Nat.reduceDiv, Nat.reduceMod]
  have e : (if sp_rank s 3 = t then nI 3 else if sp_rank s 2 = t then nI 2 else if sp_rank s 1 = t then nI 1 else if sp_rank s 0 = t then nI 0 else (-5 : Int32)) = nI (sp_kd s t) := by
    have hh := sp_rank_all s ht
    unfold sp_kd
    split
    · rfl
    · split
      · rfl
      · split
        · rfl
        · rw [if_pos]
          rcases hh with q | q | q | q
          · exact q
          · exact absurd q (by assumption)
          · exact absurd q (by assumption)
          · exact absurd q (by assumption)
  rw [e]
end M2
