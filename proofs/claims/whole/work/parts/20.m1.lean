/-! THE REFERENCE: its small methods -/
def tb_isA (h : tb_heap) (a ty n : Nat) (F : Nat → Int32) : Prop := ∃ f, h a = some (.inr (.inl (ty, n, f))) ∧ ∀ j, j < n → f j = F j
theorem tb_isA.ld {h : tb_heap} {a ty n : Nat} {F : Nat → Int32} (hA : tb_isA h a ty n F) {E : tb_env} {j : Nat} (hj : j < n) (hn : n < 2 ^ 31) {K : Int32 → Prop} : tb_wF (tb_ld E h ty a (nI j)) K = K (F j) := by
  obtain ⟨f, h1, h2⟩ := hA
  have hc : (nI j).toNatClampNeg = j := nI_clamp (by omega)
  have e : tb_ld E h ty a (nI j) = some (f j) := by
    unfold tb_ld tb_ra
    rw [h1]
    simp only [if_true, hc]
    rw [if_neg]
    intro q
    rcases q with q | q
    · exact nI_pos (by omega) q
    · omega
  rw [e, h2 j hj]
  rfl
theorem tb_isA.st {h : tb_heap} {a ty n : Nat} {F : Nat → Int32} (hA : tb_isA h a ty n F) {j : Nat} {x : Int32} (hj : j < n) (hn : n < 2 ^ 31) {K : tb_heap → Prop} (hK : ∀ h', tb_isA h' a ty n (upd F j x) → (∀ q, q ≠ a → h' q = h q) → K h') : tb_wF (tb_stv h ty a (nI j) x) K := by
  obtain ⟨f, h1, h2⟩ := hA
  have hc : (nI j).toNatClampNeg = j := nI_clamp (by omega)
  have e : tb_stv h ty a (nI j) x = some (tb_up h a (.inr (.inl (ty, n, upd f j x)))) := by
    unfold tb_stv
    rw [h1]
    simp only [if_true, hc]
    rw [if_neg]
    intro q
    rcases q with q | q
    · exact nI_pos (by omega) q
    · omega
  rw [e]
  refine hK _ ⟨upd f j x, by simp [tb_up], fun i hi => ?_⟩ (fun q hq => by simp [tb_up, hq])
  unfold upd
  split
  · rfl
  · exact h2 i hi
theorem tb_isA.to {h h' : tb_heap} {a ty n : Nat} {F G : Nat → Int32} (hA : tb_isA h a ty n F) (hh : h' a = h a) (hF : ∀ j, j < n → F j = G j) : tb_isA h' a ty n G := by
  obtain ⟨f, h1, h2⟩ := hA
  exact ⟨f, by rw [hh, h1], fun j hj => (h2 j hj).trans (hF j hj)⟩
def tb_MS (h : tb_heap) (m : Nat) (s : Nat → Nat) : Prop := (∃ fs, h m = some (.inl (6, fs)) ∧ fs[0]? = some (.ref (m + 1)) ∧ fs[11]? = some (.ref (m + 7))) ∧ tb_isA h (m + 1) 0 368 (fun j => nI (s j))
theorem tb_MS.g {h : tb_heap} {m : Nat} {s : Nat → Nat} (hM : tb_MS h m s) : tb_gf h m 6 0 = some (.ref (m + 1)) ∧ tb_gf h m 6 11 = some (.ref (m + 7)) := by
  obtain ⟨⟨fs, h1, h2, h3⟩, -⟩ := hM
  simp only [tb_gf, h1, if_true, h2, h3, and_self]
theorem tb_MS.O {h : tb_heap} {m : Nat} {s : Nat → Nat} (hM : tb_MS h m s) : tb_isO h m 6 := by
  obtain ⟨⟨fs, h1, h2⟩, -⟩ := hM
  exact ⟨fs, h1⟩
theorem tb_MS.ld {E : tb_env} {h : tb_heap} {m : Nat} {s : Nat → Nat} (hM : tb_MS h m s) {j : Nat} (hj : j < 368) {K : Int32 → Prop} : tb_wF (tb_ld E h 0 (m + 1) (nI j)) K = K (nI (s j)) := hM.2.ld hj (by decide)
theorem tb_MS.to {h h' : tb_heap} {m : Nat} {s s' : Nat → Nat} (hM : tb_MS h m s) (h0 : h' m = h m) (h1 : h' (m + 1) = h (m + 1)) (hs : ∀ j, j < 368 → s j = s' j) : tb_MS h' m s' := by
  obtain ⟨⟨fs, g1, g2⟩, g3⟩ := hM
  exact ⟨⟨fs, by rw [h0, g1], g2⟩, g3.to h1 (fun j hj => by rw [hs j hj])⟩
theorem tb_MS.st {h : tb_heap} {m : Nat} {s : Nat → Nat} (hM : tb_MS h m s) {j v : Nat} (hj : j < 368) {K : tb_heap → Prop} (hK : ∀ h', tb_MS h' m (va_up s j v) → (∀ q, q ≠ m + 1 → h' q = h q) → K h') : tb_wF (tb_stv h 0 (m + 1) (nI j) (nI v)) K := by
  refine hM.2.st hj (by decide) (fun h' hA hF => hK h' ⟨?_, hA.to rfl (fun i hi => ?_)⟩ hF)
  · rw [hF m (by omega)]; exact hM.1
  · unfold upd va_up
    dsimp only
    split <;> rfl
section M1
variable {E : tb_env} {d : Nat} {h : tb_heap} {nx : Nat} {Q : Option Value → tb_heap → Nat → Prop}
theorem m_heap {b c k : Nat} : tb_wp E d 95 0 [.int (nI b), .int (nI c), .int (nI k)] [] h nx 0 0 Q = Q (some (.int (nI (48 + 32 * b + 4 * c + k)))) h nx := by
  simp only [r95_0, r95_2, r95_4, r95_5, r95_6, r95_7, r95_8, r95_9, r95_10, r95_11, r95_12, r95_13, nI_add, pk_mul, e_sub, e_div, tb_nmod, e_dec, e_le, e_lt, e_eq, e_eq0, e_lt0, e_0le, e_0lt, e_le0, if_true, if_false, not_true_eq_false, not_false_eq_true, ite_true, ite_false, Nat.reduceAdd, Nat.reduceMul, Nat.reduceLeDiff, Nat.reduceLT, Nat.reduceEqDiff, Nat.reduceSub, ↓reduceIte, Nat.reduceDiv, Nat.reduceMod]
theorem m_moving {b c k : Nat} (hd : 1 ≤ d) : tb_wp E d 96 0 [.int (nI b), .int (nI c), .int (nI k)] [] h nx 0 0 Q = Q (some (.int (nI (208 + 32 * b + 4 * c + k)))) h nx := by
  simp (disch := first | assumption | omega | exact tb_sm0 | exact tb_sm1 _ | exact tb_sm2 _ _ | exact tb_sm3 _ _ _ | exact tb_sm4 _ _ _ _ | exact Or.inl rfl | exact Or.inr rfl | fail) only [r96_0, r96_1, r96_2, r96_3, r96_6, r96_9, r96_10, r96_12, r96_13, m_heap, tb_vl_some, tb_vl_none, tb_wF_some, nI_add, pk_mul, e_sub, e_div, tb_nmod, e_dec, e_le, e_lt, e_eq, e_eq0, e_lt0, e_0le, e_0lt, e_le0, if_true, if_false, not_true_eq_false, not_false_eq_true, ite_true, ite_false, Nat.reduceAdd, Nat.reduceMul, Nat.reduceLeDiff, Nat.reduceLT, Nat.reduceEqDiff, Nat.reduceSub, ↓reduceIte, Nat.reduceDiv, Nat.reduceMod]
  rw [show 48 + 32 * b + 4 * c + k + 208 - 48 = 208 + 32 * b + 4 * c + k by omega]
theorem m_in_no {v a b : Int32} (hv : v < a ∨ b < v) : tb_wp E d 91 0 [.int v, .int a, .int b] [] h nx 0 0 Q = Q (some (.int (nI 0))) h nx := by
  by_cases h1 : v < a
  · simp (disch := first | assumption | omega | exact tb_sm0 | exact tb_sm1 _ | exact tb_sm2 _ _ | exact tb_sm3 _ _ _ | exact tb_sm4 _ _ _ _ | exact Or.inl rfl | exact Or.inr rfl | fail) only [r91_0, r91_1, r91_2, r91_5, r91_6, r91_7, r91_10, r91_11, r91_14, r91_15, h1, nI_add, pk_mul, e_sub, e_div, tb_nmod, e_dec, e_le, e_lt, e_eq, e_eq0, e_lt0, e_0le, e_0lt, e_le0, if_true, if_false, not_true_eq_false, not_false_eq_true, ite_true, ite_false, Nat.reduceAdd, Nat.reduceMul, Nat.reduceLeDiff, Nat.reduceLT, Nat.reduceEqDiff, Nat.reduceSub, ↓reduceIte, Nat.reduceDiv, Nat.reduceMod]
  · have h2 : b < v := hv.resolve_left h1
    simp (disch := first | assumption | omega | exact tb_sm0 | exact tb_sm1 _ | exact tb_sm2 _ _ | exact tb_sm3 _ _ _ | exact tb_sm4 _ _ _ _ | exact Or.inl rfl | exact Or.inr rfl | fail) only [r91_0, r91_1, r91_2, r91_5, r91_6, r91_7, r91_10, r91_11, r91_14, r91_15, h1, h2, nI_add, pk_mul, e_sub, e_div, tb_nmod, e_dec, e_le, e_lt, e_eq, e_eq0, e_lt0, e_0le, e_0lt, e_le0, if_true, if_false, not_true_eq_false, not_false_eq_true, ite_true, ite_false, Nat.reduceAdd, Nat.reduceMul, Nat.reduceLeDiff, Nat.reduceLT, Nat.reduceEqDiff, Nat.reduceSub, ↓reduceIte, Nat.reduceDiv, Nat.reduceMod]
theorem m_in_ok {v a b : Int32} (h1 : ¬ v < a) (h2 : ¬ b < v) : tb_wp E d 91 0 [.int v, .int a, .int b] [] h nx 0 0 Q = Q (some (.int (nI 1))) h nx := by
  simp (disch := first | assumption | omega | exact tb_sm0 | exact tb_sm1 _ | exact tb_sm2 _ _ | exact tb_sm3 _ _ _ | exact tb_sm4 _ _ _ _ | exact Or.inl rfl | exact Or.inr rfl | fail) only [r91_0, r91_1, r91_2, r91_5, r91_6, r91_7, r91_10, r91_11, r91_14, r91_15, h1, h2, nI_add, pk_mul, e_sub, e_div, tb_nmod, e_dec, e_le, e_lt, e_eq, e_eq0, e_lt0, e_0le, e_0lt, e_le0, if_true, if_false, not_true_eq_false, not_false_eq_true, ite_true, ite_false, Nat.reduceAdd, Nat.reduceMul, Nat.reduceLeDiff, Nat.reduceLT, Nat.reduceEqDiff, Nat.reduceSub, ↓reduceIte, Nat.reduceDiv, Nat.reduceMod]
theorem m_in_n {v a b : Nat} (h1 : a ≤ v) (h2 : v ≤ b) (hb : b < 2 ^ 31) : tb_wp E d 91 0 [.int (nI v), .int (nI a), .int (nI b)] [] h nx 0 0 Q = Q (some (.int (nI 1))) h nx :=
  m_in_ok (by rw [nI_ltI (by omega) (by omega)]; omega) (by rw [nI_ltI hb (by omega)]; omega)
theorem m_isBoard_no {x : Int32} (hx : tb_bad x 4) (hd : 1 ≤ d) : tb_wp E d 92 0 [.int x] [] h nx 0 0 Q = Q (some (.int (nI 0))) h nx := by
  simp (disch := first | assumption | omega | exact tb_sm0 | exact tb_sm1 _ | exact tb_sm2 _ _ | exact tb_sm3 _ _ _ | exact tb_sm4 _ _ _ _ | exact Or.inl rfl | exact Or.inr rfl | fail) only [r92_0, r92_1, r92_2, r92_3, r92_6, m_in_no hx, tb_vl_some, tb_vl_none, tb_wF_some, nI_add, pk_mul, e_sub, e_div, tb_nmod, e_dec, e_le, e_lt, e_eq, e_eq0, e_lt0, e_0le, e_0lt, e_le0, if_true, if_false, not_true_eq_false, not_false_eq_true, ite_true, ite_false, Nat.reduceAdd, Nat.reduceMul, Nat.reduceLeDiff, Nat.reduceLT, Nat.reduceEqDiff, Nat.reduceSub, ↓reduceIte, Nat.reduceDiv, Nat.reduceMod]
theorem m_isBoard {b : Nat} (hb : b < 5) (hd : 1 ≤ d) : tb_wp E d 92 0 [.int (nI b)] [] h nx 0 0 Q = Q (some (.int (nI 1))) h nx := by
  simp (disch := first | assumption | omega | exact tb_sm0 | exact tb_sm1 _ | exact tb_sm2 _ _ | exact tb_sm3 _ _ _ | exact tb_sm4 _ _ _ _ | exact Or.inl rfl | exact Or.inr rfl | fail) only [r92_0, r92_1, r92_2, r92_3, r92_6, m_in_n (Nat.zero_le b) (show b ≤ 4 by omega) (by decide), tb_vl_some, tb_vl_none, tb_wF_some, nI_add, pk_mul, e_sub, e_div, tb_nmod, e_dec, e_le, e_lt, e_eq, e_eq0, e_lt0, e_0le, e_0lt, e_le0, if_true, if_false, not_true_eq_false, not_false_eq_true, ite_true, ite_false, Nat.reduceAdd, Nat.reduceMul, Nat.reduceLeDiff, Nat.reduceLT, Nat.reduceEqDiff, Nat.reduceSub, ↓reduceIte, Nat.reduceDiv, Nat.reduceMod]
theorem m_isKind_no {x : Int32} (hx : tb_bad x 3) (hd : 1 ≤ d) : tb_wp E d 93 0 [.int x] [] h nx 0 0 Q = Q (some (.int (nI 0))) h nx := by
  simp (disch := first | assumption | omega | exact tb_sm0 | exact tb_sm1 _ | exact tb_sm2 _ _ | exact tb_sm3 _ _ _ | exact tb_sm4 _ _ _ _ | exact Or.inl rfl | exact Or.inr rfl | fail) only [r93_0, r93_1, r93_2, r93_3, r93_6, m_in_no hx, tb_vl_some, tb_vl_none, tb_wF_some, nI_add, pk_mul, e_sub, e_div, tb_nmod, e_dec, e_le, e_lt, e_eq, e_eq0, e_lt0, e_0le, e_0lt, e_le0, if_true, if_false, not_true_eq_false, not_false_eq_true, ite_true, ite_false, Nat.reduceAdd, Nat.reduceMul, Nat.reduceLeDiff, Nat.reduceLT, Nat.reduceEqDiff, Nat.reduceSub, ↓reduceIte, Nat.reduceDiv, Nat.reduceMod]
theorem m_isKind {b : Nat} (hb : b < 4) (hd : 1 ≤ d) : tb_wp E d 93 0 [.int (nI b)] [] h nx 0 0 Q = Q (some (.int (nI 1))) h nx := by
  simp (disch := first | assumption | omega | exact tb_sm0 | exact tb_sm1 _ | exact tb_sm2 _ _ | exact tb_sm3 _ _ _ | exact tb_sm4 _ _ _ _ | exact Or.inl rfl | exact Or.inr rfl | fail) only [r93_0, r93_1, r93_2, r93_3, r93_6, m_in_n (Nat.zero_le b) (show b ≤ 3 by omega) (by decide), tb_vl_some, tb_vl_none, tb_wF_some, nI_add, pk_mul, e_sub, e_div, tb_nmod, e_dec, e_le, e_lt, e_eq, e_eq0, e_lt0, e_0le, e_0lt, e_le0, if_true, if_false, not_true_eq_false, not_false_eq_true, ite_true, ite_false, Nat.reduceAdd, Nat.reduceMul, Nat.reduceLeDiff, Nat.reduceLT, Nat.reduceEqDiff, Nat.reduceSub, ↓reduceIte, Nat.reduceDiv, Nat.reduceMod]
theorem m_isPlace_no {x y z : Int32} (hx : tb_bad x 4 ∨ tb_bad y 7 ∨ tb_bad z 3) (hd : 2 ≤ d) : tb_wp E d 94 0 [.int x, .int y, .int z] [] h nx 0 0 Q = Q (some (.int (nI 0))) h nx := by
  rcases tb_gd x (show 4 < 2 ^ 31 by decide) with h1 | ⟨b, hb, rfl⟩
  · simp (disch := first | assumption | omega | exact tb_sm0 | exact tb_sm1 _ | exact tb_sm2 _ _ | exact tb_sm3 _ _ _ | exact tb_sm4 _ _ _ _ | exact Or.inl rfl | exact Or.inr rfl | fail) only [r94_0, r94_1, r94_4, r94_7, r94_8, r94_9, r94_11, r94_14, r94_17, r94_18, r94_21, r94_24, r94_25, r94_28, r94_29, m_isBoard_no h1, tb_vl_some, tb_vl_none, tb_wF_some, nI_add, pk_mul, e_sub, e_div, tb_nmod, e_dec, e_le, e_lt, e_eq, e_eq0, e_lt0, e_0le, e_0lt, e_le0, if_true, if_false, not_true_eq_false, not_false_eq_true, ite_true, ite_false, Nat.reduceAdd, Nat.reduceMul, Nat.reduceLeDiff, Nat.reduceLT, Nat.reduceEqDiff, Nat.reduceSub, ↓reduceIte, Nat.reduceDiv, Nat.reduceMod]
  · rcases tb_gd y (show 7 < 2 ^ 31 by decide) with h1 | ⟨c, hc, rfl⟩
    · simp (disch := first | assumption | omega | exact tb_sm0 | exact tb_sm1 _ | exact tb_sm2 _ _ | exact tb_sm3 _ _ _ | exact tb_sm4 _ _ _ _ | exact Or.inl rfl | exact Or.inr rfl | fail) only [r94_0, r94_1, r94_4, r94_7, r94_8, r94_9, r94_11, r94_14, r94_17, r94_18, r94_21, r94_24, r94_25, r94_28, r94_29, m_isBoard, m_in_no h1, tb_vl_some, tb_vl_none, tb_wF_some, nI_add, pk_mul, e_sub, e_div, tb_nmod, e_dec, e_le, e_lt, e_eq, e_eq0, e_lt0, e_0le, e_0lt, e_le0, if_true, if_false, not_true_eq_false, not_false_eq_true, ite_true, ite_false, Nat.reduceAdd, Nat.reduceMul, Nat.reduceLeDiff, Nat.reduceLT, Nat.reduceEqDiff, Nat.reduceSub, ↓reduceIte, Nat.reduceDiv, Nat.reduceMod]
    · have hz : tb_bad z 3 := by
        rcases hx with h1 | h1 | h1
        · rcases h1 with h1 | h1
          · rw [nI_ltI (by omega) (by omega)] at h1; omega
          · rw [nI_ltI (by omega) (by omega)] at h1; omega
        · rcases h1 with h1 | h1
          · rw [nI_ltI (by omega) (by omega)] at h1; omega
          · rw [nI_ltI (by omega) (by omega)] at h1; omega
        · exact h1
      simp (disch := first | assumption | omega | exact tb_sm0 | exact tb_sm1 _ | exact tb_sm2 _ _ | exact tb_sm3 _ _ _ | exact tb_sm4 _ _ _ _ | exact Or.inl rfl | exact Or.inr rfl | fail) only [r94_0, r94_1, r94_4, r94_7, r94_8, r94_9, r94_11, r94_14, r94_17, r94_18, r94_21, r94_24, r94_25, r94_28, r94_29, m_isBoard, m_in_n (Nat.zero_le c) hc (by decide), m_isKind_no hz, tb_vl_some, tb_vl_none, tb_wF_some, nI_add, pk_mul, e_sub, e_div, tb_nmod, e_dec, e_le, e_lt, e_eq, e_eq0, e_lt0, e_0le, e_0lt, e_le0, if_true, if_false, not_true_eq_false, not_false_eq_true, ite_true, ite_false, Nat.reduceAdd, Nat.reduceMul, Nat.reduceLeDiff, Nat.reduceLT, Nat.reduceEqDiff, Nat.reduceSub, ↓reduceIte, Nat.reduceDiv, Nat.reduceMod]
theorem m_isPlace {b c k : Nat} (hb : b < 5) (hc : c < 8) (hk : k < 4) (hd : 2 ≤ d) : tb_wp E d 94 0 [.int (nI b), .int (nI c), .int (nI k)] [] h nx 0 0 Q = Q (some (.int (nI 1))) h nx := by
  simp (disch := first | assumption | omega | exact tb_sm0 | exact tb_sm1 _ | exact tb_sm2 _ _ | exact tb_sm3 _ _ _ | exact tb_sm4 _ _ _ _ | exact Or.inl rfl | exact Or.inr rfl | fail) only [r94_0, r94_1, r94_4, r94_7, r94_8, r94_9, r94_11, r94_14, r94_17, r94_18, r94_21, r94_24, r94_25, r94_28, r94_29, m_isBoard, m_in_n (Nat.zero_le c) (show c ≤ 7 by omega) (by decide), m_isKind, tb_vl_some, tb_vl_none, tb_wF_some, nI_add, pk_mul, e_sub, e_div, tb_nmod, e_dec, e_le, e_lt, e_eq, e_eq0, e_lt0, e_0le, e_0lt, e_le0, if_true, if_false, not_true_eq_false, not_false_eq_true, ite_true, ite_false, Nat.reduceAdd, Nat.reduceMul, Nat.reduceLeDiff, Nat.reduceLT, Nat.reduceEqDiff, Nat.reduceSub, ↓reduceIte, Nat.reduceDiv, Nat.reduceMod]
def sp_on (s : Nat → Nat) (b c : Nat) : Nat := s (48 + 32 * b + 4 * c + 0) + s (48 + 32 * b + 4 * c + 1) + s (48 + 32 * b + 4 * c + 2) + s (48 + 32 * b + 4 * c + 3)
theorem m_onCell {m b c : Nat} {s : Nat → Nat} (hM : tb_MS h m s) (hb : b < 5) (hc : c < 8) (hd : 1 ≤ d) : tb_wp E d 101 0 [.ref m, .int (nI b), .int (nI c), .long 0, .long 0] [] h nx 0 0 Q = Q (some (.int (nI (sp_on s b c)))) h nx := by
  have h1 := hM.g
  simp (disch := first | assumption | omega | exact tb_sm0 | exact tb_sm1 _ | exact tb_sm2 _ _ | exact tb_sm3 _ _ _ | exact tb_sm4 _ _ _ _ | exact Or.inl rfl | exact Or.inr rfl | fail) only [r101_0, r101_1, r101_2, r101_3, r101_5, r101_7, r101_8, r101_11, r101_12, r101_13, r101_16, r101_17, r101_18, r101_20, r101_23, r101_24, r101_25, r101_26, r101_29, r101_32, r101_33, m_heap, h1, hM.ld, tb_vl_some, tb_vl_none, tb_wF_some, nI_add, pk_mul, e_sub, e_div, tb_nmod, e_dec, e_le, e_lt, e_eq, e_eq0, e_lt0, e_0le, e_0lt, e_le0, if_true, if_false, not_true_eq_false, not_false_eq_true, ite_true, ite_false, Nat.reduceAdd, Nat.reduceMul, Nat.reduceLeDiff, Nat.reduceLT, Nat.reduceEqDiff, Nat.reduceSub, ↓reduceIte, Nat.reduceDiv, Nat.reduceMod]
  simp only [sp_on, Nat.add_zero, Nat.zero_add]
def sp_all (s : Nat → Nat) (b : Nat) : Nat := sp_on s b 0 + sp_on s b 1 + sp_on s b 2 + sp_on s b 3 + sp_on s b 4 + sp_on s b 5 + sp_on s b 6 + sp_on s b 7
theorem m_onBoard {m b : Nat} {s : Nat → Nat} (hM : tb_MS h m s) (hb : b < 5) (hd : 2 ≤ d) : tb_wp E d 102 0 [.ref m, .int (nI b), .long 0, .long 0] [] h nx 0 0 Q = Q (some (.int (nI (sp_all s b)))) h nx := by
  have h1 := hM.O
  simp (disch := first | assumption | omega | exact tb_sm0 | exact tb_sm1 _ | exact tb_sm2 _ _ | exact tb_sm3 _ _ _ | exact tb_sm4 _ _ _ _ | exact Or.inl rfl | exact Or.inr rfl | fail) only [r102_0, r102_1, r102_2, r102_3, r102_4, r102_5, r102_7, r102_10, r102_11, r102_12, r102_13, r102_14, r102_17, r102_18, r102_19, r102_22, r102_25, r102_26, m_onCell hM, tb_vl_some, tb_vl_none, tb_wF_some, nI_add, pk_mul, e_sub, e_div, tb_nmod, e_dec, e_le, e_lt, e_eq, e_eq0, e_lt0, e_0le, e_0lt, e_le0, if_true, if_false, not_true_eq_false, not_false_eq_true, ite_true, ite_false, Nat.reduceAdd, Nat.reduceMul, Nat.reduceLeDiff, Nat.reduceLT, Nat.reduceEqDiff, Nat.reduceSub, ↓reduceIte, Nat.reduceDiv, Nat.reduceMod]
  simp only [sp_all, Nat.add_zero, Nat.zero_add]
/-- what every state of the sand keeps to -/
def sp_I (s : Nat → Nat) : Prop := (∀ b c, b < 5 → c < 8 → sp_on s b c ≤ 99) ∧ (s 1 ≤ 30 ∧ 1 ≤ s 2 ∧ s 2 ≤ 99 ∧ 2 ≤ s 3 ∧ s 3 ≤ 99) ∧ (∀ k, k < 4 → s (5 + k) ≤ 80) ∧ (∀ b, b < 5 → s (13 + b) ≤ 90) ∧ (∀ j, j < 160 → s (208 + j) ≤ 1)
def sp_need (s : Nat → Nat) (b c k : Nat) : Nat := if s (208 + 32 * b + 4 * c + k) = 1 then s (5 + k) + sp_on s b c / s 2 - s 1 else s (5 + k) + sp_on s b c / s 2
theorem m_need {m b c k : Nat} {s : Nat → Nat} (hM : tb_MS h m s) (hI : sp_I s) (hb : b < 5) (hc : c < 8) (hk : k < 4) (hd : 2 ≤ d) : tb_wp E d 103 0 [.ref m, .int (nI b), .int (nI c), .int (nI k), .long 0, .long 0] [] h nx 0 0 Q = Q (some (.int (nI (sp_need s b c k)))) h nx := by
  have h1 := hM.g
  have hO := hM.O
  obtain ⟨i1, ⟨i2, i3, i4, i5, i6⟩, i7, i8, i9⟩ := hI
  have j1 := i1 b c hb hc
  have j2 := i7 k hk
  have j3 := i9 (32 * b + 4 * c + k) (by omega)
  rw [show 208 + (32 * b + 4 * c + k) = 208 + 32 * b + 4 * c + k by omega] at j3
  have hz : ¬ nI (s 2) = 0 := by rw [e_eq0 (by omega)]; omega
  have j4 : sp_on s b c / s 2 ≤ 99 := Nat.le_trans (Nat.div_le_self _ _) j1
  unfold sp_need
  by_cases hm : s (208 + 32 * b + 4 * c + k) = 1
  · by_cases hl : s (5 + k) + sp_on s b c / s 2 < s 1
    · have hn := e_neg hl (by omega)
      have hn' : (0 ≤ nI (s (5 + k) + sp_on s b c / s 2) - nI (s 1)) = False := by
        have : nI (s (5 + k) + sp_on s b c / s 2) - nI (s 1) < 0 := by rw [hn]; trivial
        simp [Int32.not_le.mpr this]
      simp (disch := first | assumption | omega | exact tb_sm0 | exact tb_sm1 _ | exact tb_sm2 _ _ | exact tb_sm3 _ _ _ | exact tb_sm4 _ _ _ _ | exact Or.inl rfl | exact Or.inr rfl | fail) only [r103_0, r103_1, r103_4, r103_5, r103_6, r103_7, r103_8, r103_9, r103_10, r103_11, r103_14, r103_15, r103_18, r103_19, r103_20, r103_21, r103_22, r103_24, r103_25, r103_28, r103_29, r103_30, r103_31, r103_34, r103_35, r103_36, r103_39, r103_41, r103_42, r103_45, r103_46, r103_47, r103_48, r103_51, r103_53, r103_55, r103_57, r103_60, r103_61, r103_64, r103_66, m_onCell hM, m_moving, h1, hM.ld, tb_vl_some, tb_vl_none, tb_wF_some, hm, hn', nI_add, pk_mul, e_sub, e_div, tb_nmod, e_dec, e_le, e_lt, e_eq, e_eq0, e_lt0, e_0le, e_0lt, e_le0, if_true, if_false, not_true_eq_false, not_false_eq_true, ite_true, ite_false, Nat.reduceAdd, Nat.reduceMul, Nat.reduceLeDiff, Nat.reduceLT, Nat.reduceEqDiff, Nat.reduceSub, ↓reduceIte, Nat.reduceDiv, Nat.reduceMod]
      rw [Nat.sub_eq_zero_of_le (by omega)]
    · simp (disch := first | assumption | omega | exact tb_sm0 | exact tb_sm1 _ | exact tb_sm2 _ _ | exact tb_sm3 _ _ _ | exact tb_sm4 _ _ _ _ | exact Or.inl rfl | exact Or.inr rfl | fail) only [r103_0, r103_1, r103_4, r103_5, r103_6, r103_7, r103_8, r103_9, r103_10, r103_11, r103_14, r103_15, r103_18, r103_19, r103_20, r103_21, r103_22, r103_24, r103_25, r103_28, r103_29, r103_30, r103_31, r103_34, r103_35, r103_36, r103_39, r103_41, r103_42, r103_45, r103_46, r103_47, r103_48, r103_51, r103_53, r103_55, r103_57, r103_60, r103_61, r103_64, r103_66, m_onCell hM, m_moving, h1, hM.ld, tb_vl_some, tb_vl_none, tb_wF_some, hm, nI_add, pk_mul, e_sub, e_div, tb_nmod, e_dec, e_le, e_lt, e_eq, e_eq0, e_lt0, e_0le, e_0lt, e_le0, if_true, if_false, not_true_eq_false, not_false_eq_true, ite_true, ite_false, Nat.reduceAdd, Nat.reduceMul, Nat.reduceLeDiff, Nat.reduceLT, Nat.reduceEqDiff, Nat.reduceSub, ↓reduceIte, Nat.reduceDiv, Nat.reduceMod]
  · simp (disch := first | assumption | omega | exact tb_sm0 | exact tb_sm1 _ | exact tb_sm2 _ _ | exact tb_sm3 _ _ _ | exact tb_sm4 _ _ _ _ | exact Or.inl rfl | exact Or.inr rfl | fail) only [r103_0, r103_1, r103_4, r103_5, r103_6, r103_7, r103_8, r103_9, r103_10, r103_11, r103_14, r103_15, r103_18, r103_19, r103_20, r103_21, r103_22, r103_24, r103_25, r103_28, r103_29, r103_30, r103_31, r103_34, r103_35, r103_36, r103_39, r103_41, r103_42, r103_45, r103_46, r103_47, r103_48, r103_51, r103_53, r103_55, r103_57, r103_60, r103_61, r103_64, r103_66, m_onCell hM, m_moving, h1, hM.ld, tb_vl_some, tb_vl_none, tb_wF_some, hm, nI_add, pk_mul, e_sub, e_div, tb_nmod, e_dec, e_le, e_lt, e_eq, e_eq0, e_lt0, e_0le, e_0lt, e_le0, if_true, if_false, not_true_eq_false, not_false_eq_true, ite_true, ite_false, Nat.reduceAdd, Nat.reduceMul, Nat.reduceLeDiff, Nat.reduceLT, Nat.reduceEqDiff, Nat.reduceSub, ↓reduceIte, Nat.reduceDiv, Nat.reduceMod]
def sp_room (s : Nat → Nat) (b c : Nat) : Nat := if c = 7 then 99 else 99 - sp_on s b (c + 1)
theorem m_roomBelow {m b c : Nat} {s : Nat → Nat} (hM : tb_MS h m s) (hI : sp_I s) (hb : b < 5) (hc : c < 8) (hd : 2 ≤ d) : tb_wp E d 104 0 [.ref m, .int (nI b), .int (nI c)] [] h nx 0 0 Q = Q (some (.int (nI (sp_room s b c)))) h nx := by
  have hO := hM.O
  unfold sp_room
  by_cases h7 : c = 7
  · simp (disch := first | assumption | omega | exact tb_sm0 | exact tb_sm1 _ | exact tb_sm2 _ _ | exact tb_sm3 _ _ _ | exact tb_sm4 _ _ _ _ | exact Or.inl rfl | exact Or.inr rfl | fail) only [r104_0, r104_1, r104_3, r104_6, r104_8, r104_11, r104_13, r104_14, r104_15, r104_16, r104_17, r104_18, r104_21, r104_22, h7, tb_vl_some, tb_vl_none, tb_wF_some, nI_add, pk_mul, e_sub, e_div, tb_nmod, e_dec, e_le, e_lt, e_eq, e_eq0, e_lt0, e_0le, e_0lt, e_le0, if_true, if_false, not_true_eq_false, not_false_eq_true, ite_true, ite_false, Nat.reduceAdd, Nat.reduceMul, Nat.reduceLeDiff, Nat.reduceLT, Nat.reduceEqDiff, Nat.reduceSub, ↓reduceIte, Nat.reduceDiv, Nat.reduceMod]
  · have j1 := hI.1 b (c + 1) hb (by omega)
    simp (disch := first | assumption | omega | exact tb_sm0 | exact tb_sm1 _ | exact tb_sm2 _ _ | exact tb_sm3 _ _ _ | exact tb_sm4 _ _ _ _ | exact Or.inl rfl | exact Or.inr rfl | fail) only [r104_0, r104_1, r104_3, r104_6, r104_8, r104_11, r104_13, r104_14, r104_15, r104_16, r104_17, r104_18, r104_21, r104_22, h7, m_onCell hM, tb_vl_some, tb_vl_none, tb_wF_some, nI_add, pk_mul, e_sub, e_div, tb_nmod, e_dec, e_le, e_lt, e_eq, e_eq0, e_lt0, e_0le, e_0lt, e_le0, if_true, if_false, not_true_eq_false, not_false_eq_true, ite_true, ite_false, Nat.reduceAdd, Nat.reduceMul, Nat.reduceLeDiff, Nat.reduceLT, Nat.reduceEqDiff, Nat.reduceSub, ↓reduceIte, Nat.reduceDiv, Nat.reduceMod]
def sp_why (s : Nat → Nat) (b c k : Nat) : Nat := if s (48 + 32 * b + 4 * c + k) = 0 then 1 else if s (13 + b) < sp_need s b c k then 2 else if sp_room s b c = 0 then 3 else 0
theorem sp_need_le {s : Nat → Nat} (hI : sp_I s) {b c k : Nat} (hb : b < 5) (hc : c < 8) (hk : k < 4) : sp_need s b c k ≤ 179 := by
  have j1 := hI.1 b c hb hc
  have j2 := hI.2.2.1 k hk
  have j4 : sp_on s b c / s 2 ≤ 99 := Nat.le_trans (Nat.div_le_self _ _) j1
  unfold sp_need
  split <;> omega
theorem sp_heap_le {s : Nat → Nat} (hI : sp_I s) {b c k : Nat} (hb : b < 5) (hc : c < 8) (hk : k < 4) : s (48 + 32 * b + 4 * c + k) ≤ 99 := by
  have j1 := hI.1 b c hb hc
  unfold sp_on at j1
  rcases (by omega : k = 0 ∨ k = 1 ∨ k = 2 ∨ k = 3) with rfl | rfl | rfl | rfl <;> omega
theorem sp_room_le (s : Nat → Nat) (b c : Nat) : sp_room s b c ≤ 99 := by unfold sp_room; split <;> omega
theorem m_why {m b c k : Nat} {s : Nat → Nat} (hM : tb_MS h m s) (hI : sp_I s) (hb : b < 5) (hc : c < 8) (hk : k < 4) (hd : 3 ≤ d) : tb_wp E d 105 0 [.ref m, .int (nI b), .int (nI c), .int (nI k)] [] h nx 0 0 Q = Q (some (.int (nI (sp_why s b c k)))) h nx := by
  have h1 := hM.g
  have hO := hM.O
  have j1 := sp_heap_le hI hb hc hk
  have j2 := sp_need_le hI hb hc hk
  have j3 := sp_room_le s b c
  have j4 := hI.2.2.2.1 b hb
  unfold sp_why
  by_cases c1 : s (48 + 32 * b + 4 * c + k) = 0
  · simp (disch := first | assumption | omega | exact tb_sm0 | exact tb_sm1 _ | exact tb_sm2 _ _ | exact tb_sm3 _ _ _ | exact tb_sm4 _ _ _ _ | exact Or.inl rfl | exact Or.inr rfl | fail) only [r105_0, r105_1, r105_4, r105_5, r105_6, r105_7, r105_10, r105_11, r105_14, r105_15, r105_16, r105_17, r105_20, r105_22, r105_23, r105_24, r105_25, r105_26, r105_27, r105_28, r105_29, r105_32, r105_35, r105_36, r105_39, r105_40, r105_41, r105_42, r105_45, r105_48, r105_49, r105_52, r105_53, m_heap, h1, hM.ld, c1, tb_vl_some, tb_vl_none, tb_wF_some, nI_add, pk_mul, e_sub, e_div, tb_nmod, e_dec, e_le, e_lt, e_eq, e_eq0, e_lt0, e_0le, e_0lt, e_le0, if_true, if_false, not_true_eq_false, not_false_eq_true, ite_true, ite_false, Nat.reduceAdd, Nat.reduceMul, Nat.reduceLeDiff, Nat.reduceLT, Nat.reduceEqDiff, Nat.reduceSub, ↓reduceIte, Nat.reduceDiv, Nat.reduceMod]
  · by_cases c2 : s (13 + b) < sp_need s b c k
    · have c2' : ¬ sp_need s b c k ≤ s (13 + b) := by omega
      simp (disch := first | assumption | omega | exact tb_sm0 | exact tb_sm1 _ | exact tb_sm2 _ _ | exact tb_sm3 _ _ _ | exact tb_sm4 _ _ _ _ | exact Or.inl rfl | exact Or.inr rfl | fail) only [r105_0, r105_1, r105_4, r105_5, r105_6, r105_7, r105_10, r105_11, r105_14, r105_15, r105_16, r105_17, r105_20, r105_22, r105_23, r105_24, r105_25, r105_26, r105_27, r105_28, r105_29, r105_32, r105_35, r105_36, r105_39, r105_40, r105_41, r105_42, r105_45, r105_48, r105_49, r105_52, r105_53, m_heap, m_need hM hI, h1, hM.ld, c1, c2, c2', tb_vl_some, tb_vl_none, tb_wF_some, nI_add, pk_mul, e_sub, e_div, tb_nmod, e_dec, e_le, e_lt, e_eq, e_eq0, e_lt0, e_0le, e_0lt, e_le0, if_true, if_false, not_true_eq_false, not_false_eq_true, ite_true, ite_false, Nat.reduceAdd, Nat.reduceMul, Nat.reduceLeDiff, Nat.reduceLT, Nat.reduceEqDiff, Nat.reduceSub, ↓reduceIte, Nat.reduceDiv, Nat.reduceMod]
    · have c2' : sp_need s b c k ≤ s (13 + b) := by omega
      by_cases c3 : sp_room s b c = 0
      · simp (disch := first | assumption | omega | exact tb_sm0 | exact tb_sm1 _ | exact tb_sm2 _ _ | exact tb_sm3 _ _ _ | exact tb_sm4 _ _ _ _ | exact Or.inl rfl | exact Or.inr rfl | fail) only [r105_0, r105_1, r105_4, r105_5, r105_6, r105_7, r105_10, r105_11, r105_14, r105_15, r105_16, r105_17, r105_20, r105_22, r105_23, r105_24, r105_25, r105_26, r105_27, r105_28, r105_29, r105_32, r105_35, r105_36, r105_39, r105_40, r105_41, r105_42, r105_45, r105_48, r105_49, r105_52, r105_53, m_heap, m_need hM hI, m_roomBelow hM hI, h1, hM.ld, c1, c2, c2', c3, tb_vl_some, tb_vl_none, tb_wF_some, nI_add, pk_mul, e_sub, e_div, tb_nmod, e_dec, e_le, e_lt, e_eq, e_eq0, e_lt0, e_0le, e_0lt, e_le0, if_true, if_false, not_true_eq_false, not_false_eq_true, ite_true, ite_false, Nat.reduceAdd, Nat.reduceMul, Nat.reduceLeDiff, Nat.reduceLT, Nat.reduceEqDiff, Nat.reduceSub, ↓reduceIte, Nat.reduceDiv, Nat.reduceMod]
      · simp (disch := first | assumption | omega | exact tb_sm0 | exact tb_sm1 _ | exact tb_sm2 _ _ | exact tb_sm3 _ _ _ | exact tb_sm4 _ _ _ _ | exact Or.inl rfl | exact Or.inr rfl | fail) only [r105_0, r105_1, r105_4, r105_5, r105_6, r105_7, r105_10, r105_11, r105_14, r105_15, r105_16, r105_17, r105_20, r105_22, r105_23, r105_24, r105_25, r105_26, r105_27, r105_28, r105_29, r105_32, r105_35, r105_36, r105_39, r105_40, r105_41, r105_42, r105_45, r105_48, r105_49, r105_52, r105_53, m_heap, m_need hM hI, m_roomBelow hM hI, h1, hM.ld, c1, c2, c2', c3, tb_vl_some, tb_vl_none, tb_wF_some, nI_add, pk_mul, e_sub, e_div, tb_nmod, e_dec, e_le, e_lt, e_eq, e_eq0, e_lt0, e_0le, e_0lt, e_le0, if_true, if_false, not_true_eq_false, not_false_eq_true, ite_true, ite_false, Nat.reduceAdd, Nat.reduceMul, Nat.reduceLeDiff, Nat.reduceLT, Nat.reduceEqDiff, Nat.reduceSub, ↓reduceIte, Nat.reduceDiv, Nat.reduceMod]
end M1
