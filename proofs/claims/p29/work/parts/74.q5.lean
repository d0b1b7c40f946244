/-! THE LAW: what would be is tried, and undone -/
theorem rec_succ {hs : Nat → Nat → Nat} {kn : Nat} {s : Nat → Nat} : ∃ k, (sp_rec hs kn s).2 = k + 1 ∧ (sp_rec hs kn s).1 k = s := by
  unfold sp_rec
  by_cases c : kn = 4
  · rw [if_pos c]; exact ⟨3, rfl, rfl⟩
  · rw [if_neg c]; exact ⟨kn, rfl, by dsimp only; rw [if_pos rfl]⟩
theorem rec_keep {hs : Nat → Nat → Nat} {k1 k2 : Nat} {s v : Nat → Nat} (h4 : k1 + 1 ≤ 4) (ht : hs k1 = s) (e : (sp_rec hs (k1 + 1) v).2 = k2 + 1) : ∃ k3, k2 = k3 + 1 ∧ (sp_rec hs (k1 + 1) v).1 k3 = s := by
  unfold sp_rec at e ⊢
  by_cases c : k1 + 1 = 4
  · rw [if_pos c] at e ⊢
    dsimp only at e ⊢
    refine ⟨2, by omega, ?_⟩
    rw [if_neg (by decide), ← ht, show k1 = 3 by omega]
  · rw [if_neg c] at e ⊢
    dsimp only at e ⊢
    refine ⟨k1, by omega, ?_⟩
    rw [if_neg (by omega), ht]
theorem rec_P {P : (Nat → Nat) → Prop} {hs : Nat → Nat → Nat} {kn : Nat} {s : Nat → Nat} (hH : ∀ i, i < kn → P (hs i)) (hS : P s) : ∀ i, i < (sp_rec hs kn s).2 → P ((sp_rec hs kn s).1 i) := by
  intro i hi
  have e : sp_rc 0 hs kn s = sp_rec hs kn s := by unfold sp_rc; rw [if_neg (by decide)]
  rw [← e] at hi ⊢
  exact rc_P hH hS i hi
section QT
variable {E : tb_env} {d : Nat} {h : tb_heap} {nx : Nat} {Q : Option Value → tb_heap → Nat → Prop} {x kn T : Nat} {s : Nat → Nat} {hs : Nat → Nat → Nat} {y : Int32} {b a : Nat}
/-- what weighs -/
theorem l_tr3 {z4 z5 z6 z7 z8 z9 z10 z11 z13 : Value} (hI : lw_I h x T s hs kn) (ha : a ≤ 90) (hd : 6 ≤ d) (hQ : Q (some (.int (nI 1))) h nx) :
    tb_wp E d 79 356 [.ref x, .int y, .int (nI b), .int (nI a), z4, z5, z6, z7, z8, z9, z10, z11, .int (nI 1), z13, .long 0, .long 0, .long 0, .long 0] [] h nx 0 0 Q := by
  have hC := hI.1
  have hJ := hI.2.1.1.1
  have oX := hC.1.O
  have low : ∀ {v : Int32} {n : Nat} (h0 : 0 < n) (hn : n < 2 ^ 31) {Q' : Option Value → tb_heap → Nat → Prop}, tb_wp E (d - 1) 73 0 [.int v, .int (nI n)] [] h nx 0 0 Q' = Q' (some (.int (nI (lw_lo v n)))) h nx := fun h0 hn => l_low h0 hn
  have q8 : ∀ {Q' : Option Value → tb_heap → Nat → Prop}, tb_wp E (d - 1) 64 0 [.ref x, .int (nI 8)] [] h nx 0 0 Q' = Q' (some (.int (nI (s 2)))) h nx := q_count hC hJ (by omega) (by decide)
  simp (disch := first | assumption | omega | exact tb_sm0 | exact tb_sm1 _ | exact tb_sm2 _ _ | exact tb_sm3 _ _ _ | exact tb_sm4 _ _ _ _ | exact Or.inl rfl | exact Or.inr rfl | fail) only [r79_356, r79_357, r79_359, r79_360, r79_361, r79_364, low, tb_vl_some, tb_vl_none, tb_wF_some]
  have hk := lo_lt (y >>> (nI 10 &&& 31)) (show 0 < 4 by decide)
  generalize lw_lo (y >>> (nI 10 &&& 31)) 4 = k at hk ⊢
  have qw : ∀ {most : Int32} {Q' : Option Value → tb_heap → Nat → Prop}, tb_wp E (d - 1) 63 0 [.ref x, .int (nI k), .int (nI a), .int most, .long 0, .long 0, .long 0] [] h nx 0 0 Q' = Q' (some (.int (sp_wg s k a most 99))) h nx := q_weighs hC hJ (by omega) hk ha
  have qk : ∀ {Q' : Option Value → tb_heap → Nat → Prop}, tb_wp E (d - 1) 56 0 [.ref x, .int (nI k), .int (nI 0)] [] h nx 0 0 Q' = Q' (some (.int (nI (s (5 + k))))) h nx := q_kind hC (by omega) hk (by decide)
  have hw0 : 0 < s 2 := hJ.2.1.2.1
  have hw9 : s 2 ≤ 99 := hJ.2.1.2.2.1
  have hz : ¬ nI (s 2) = 0 := by rw [e_eq0 (by omega)]; omega
  rcases wg_both (s := s) k a hJ with ⟨w1, w2⟩ | ⟨i, j, h1, h2, h3, w1, w2, h4, h5, h6, h7⟩
  · simp (disch := first | assumption | omega | exact tb_sm0 | exact tb_sm1 _ | exact tb_sm2 _ _ | exact tb_sm3 _ _ _ | exact tb_sm4 _ _ _ _ | exact Or.inl rfl | exact Or.inr rfl | fail) only [r79_366, r79_367, r79_369, r79_370, r79_371, r79_374, r79_376, r79_377, r79_379, r79_380, r79_381, r79_384, r79_386, r79_387, r79_389, r79_392, r79_394, r79_396, r79_399, r79_401, r79_403, r79_406, r79_407, r79_410, r79_411, r79_413, r79_415, r79_418, r79_419, r79_422, r79_423, r79_426, r79_427, r79_430, r79_431, r79_433, r79_435, r79_438, r79_440, r79_442, r79_445, r79_447, r79_449, r79_452, r79_453, r79_455, r79_456, r79_459, r79_461, r79_463, r79_464, r79_465, r79_466, r79_469, r79_470, r79_472, r79_473, r79_476, r79_478, r79_480, r79_481, r79_482, r79_483, r79_486, r79_488, r79_490, r79_493, r79_495, r79_496, r79_497, r79_499, r79_500, r79_503, r79_505, r79_506, r79_509, r79_511, r79_513, r79_514, r79_517, r79_518, r79_521, r79_522, qw, q8, w1, w2, eq_self, tb_vl_some, tb_vl_none, tb_wF_some, nI_add, pk_mul, e_sub, e_div, tb_nmod, e_dec, e_le, e_lt, e_eq, e_eq0, e_lt0, e_0le, e_0lt, e_le0, if_true, if_false, not_true_eq_false, not_false_eq_true, ite_true, ite_false, Nat.reduceAdd, Nat.reduceMul, Nat.reduceLeDiff, Nat.reduceLT, Nat.reduceEqDiff, Nat.reduceSub, ↓reduceIte, Nat.reduceDiv, Nat.reduceMod]
    exact hQ
  · have ni : (nI i = -5) = False := eq_false (fun q => by
      have : 0 ≤ nI i := by rw [e_0le (by omega)]; trivial
      rw [q] at this
      exact absurd this (by decide))
    have nj : (nI j = -5) = False := eq_false (fun q => by
      have : 0 ≤ nI j := by rw [e_0le (by omega)]; trivial
      rw [q] at this
      exact absurd this (by decide))
    have ij : ¬ j < i := by omega
    have di : nI i / nI (s 2) = nI (i / s 2) := e_div hw0 (by omega) (by omega)
    have dj : nI j / nI (s 2) = nI (j / s 2) := e_div hw0 (by omega) (by omega)
    have mi : nI i - nI (i / s 2) * nI (s 2) = nI (i % s 2) := e_rem hw0 (by omega) (by omega)
    have mj : nI (j + 1) - nI (j + 1) / nI (s 2) * nI (s 2) = nI ((j + 1) % s 2) := e_remN hw0 (by omega) (by omega)
    have k503 : tb_wp E d 79 503 [.ref x, .int y, .int (nI b), .int (nI a), z4, z5, z6, z7, z8, z9, z10, z11, .int (nI 1), z13, .int (nI k), .int (nI i), .int (nI j), .int (nI (s 2))] [] h nx 0 0 Q := by
      by_cases i1 : i = 1
      · simp (disch := first | assumption | omega | exact tb_sm0 | exact tb_sm1 _ | exact tb_sm2 _ _ | exact tb_sm3 _ _ _ | exact tb_sm4 _ _ _ _ | exact Or.inl rfl | exact Or.inr rfl | fail) only [r79_503, r79_505, r79_506, r79_509, r79_511, r79_513, r79_514, r79_517, r79_518, r79_521, r79_522, i1, eq_self, tb_vl_some, tb_vl_none, tb_wF_some, nI_add, pk_mul, e_sub, e_div, tb_nmod, e_dec, e_le, e_lt, e_eq, e_eq0, e_lt0, e_0le, e_0lt, e_le0, if_true, if_false, not_true_eq_false, not_false_eq_true, ite_true, ite_false, Nat.reduceAdd, Nat.reduceMul, Nat.reduceLeDiff, Nat.reduceLT, Nat.reduceEqDiff, Nat.reduceSub, ↓reduceIte, Nat.reduceDiv, Nat.reduceMod]
        exact hQ
      · have e0 : i % s 2 = 0 := h7.resolve_left i1
        rw [e0] at mi
        simp (disch := first | assumption | omega | exact tb_sm0 | exact tb_sm1 _ | exact tb_sm2 _ _ | exact tb_sm3 _ _ _ | exact tb_sm4 _ _ _ _ | exact Or.inl rfl | exact Or.inr rfl | fail) only [r79_503, r79_505, r79_506, r79_509, r79_511, r79_513, r79_514, r79_517, r79_518, r79_521, r79_522, i1, di, mi, hz, eq_self, e_eq, e_eq0, not_true_eq_false, not_false_eq_true, if_true, if_false, ↓reduceIte, tb_vl_some, tb_vl_none, tb_wF_some]
        exact hQ
    simp (disch := first | assumption | omega | exact tb_sm0 | exact tb_sm1 _ | exact tb_sm2 _ _ | exact tb_sm3 _ _ _ | exact tb_sm4 _ _ _ _ | exact Or.inl rfl | exact Or.inr rfl | fail) only [r79_366, r79_367, r79_369, r79_370, r79_371, r79_374, r79_376, r79_377, r79_379, r79_380, r79_381, r79_384, r79_386, r79_387, r79_389, r79_392, r79_394, r79_396, r79_399, r79_401, r79_403, r79_406, r79_407, r79_410, r79_411, r79_413, r79_415, r79_418, r79_419, r79_422, r79_423, r79_426, r79_427, r79_430, r79_431, r79_433, r79_435, r79_438, r79_440, r79_442, r79_445, r79_447, r79_449, r79_452, r79_453, r79_455, r79_456, r79_459, r79_461, r79_463, r79_464, r79_465, r79_466, r79_469, r79_470, r79_472, r79_473, r79_476, r79_478, r79_480, r79_481, r79_482, r79_483, qw, q8, qk, w1, w2, ni, nj, ij, di, dj, h4, h5, eq_self, tb_vl_some, tb_vl_none, tb_wF_some, nI_add, pk_mul, e_sub, e_div, tb_nmod, e_dec, e_le, e_lt, e_eq, e_eq0, e_lt0, e_0le, e_0lt, e_le0, if_true, if_false, not_true_eq_false, not_false_eq_true, ite_true, ite_false, Nat.reduceAdd, Nat.reduceMul, Nat.reduceLeDiff, Nat.reduceLT, Nat.reduceEqDiff, Nat.reduceSub, ↓reduceIte, Nat.reduceDiv, Nat.reduceMod]
    by_cases j9 : j = 99
    · rw [j9] at k503 ⊢
      simp (disch := first | assumption | omega | exact tb_sm0 | exact tb_sm1 _ | exact tb_sm2 _ _ | exact tb_sm3 _ _ _ | exact tb_sm4 _ _ _ _ | exact Or.inl rfl | exact Or.inr rfl | fail) only [r79_486, r79_488, r79_490, r79_493, r79_495, r79_496, r79_497, r79_499, r79_500, eq_self, tb_vl_some, tb_vl_none, tb_wF_some, nI_add, pk_mul, e_sub, e_div, tb_nmod, e_dec, e_le, e_lt, e_eq, e_eq0, e_lt0, e_0le, e_0lt, e_le0, if_true, if_false, not_true_eq_false, not_false_eq_true, ite_true, ite_false, Nat.reduceAdd, Nat.reduceMul, Nat.reduceLeDiff, Nat.reduceLT, Nat.reduceEqDiff, Nat.reduceSub, ↓reduceIte, Nat.reduceDiv, Nat.reduceMod]
      exact k503
    · have e0 : (j + 1) % s 2 = 0 := h6.resolve_left j9
      rw [e0] at mj
      simp (disch := first | assumption | omega | exact tb_sm0 | exact tb_sm1 _ | exact tb_sm2 _ _ | exact tb_sm3 _ _ _ | exact tb_sm4 _ _ _ _ | exact Or.inl rfl | exact Or.inr rfl | fail) only [r79_486, r79_488, r79_490, r79_493, r79_495, r79_496, r79_497, r79_499, r79_500, j9, nI_add, mj, hz, eq_self, e_eq, e_eq0, not_true_eq_false, not_false_eq_true, if_true, if_false, ↓reduceIte, tb_vl_some, tb_vl_none, tb_wF_some]
      exact k503
theorem tilt_eq (hI : sp_I s) (hb : b < 5) (ha : a ≤ 90) : ac_tilt s (nI b) (nI a) = if s (13 + b) = a then (-5, s) else (nI (s (13 + b)), pp_v s b a) := by
  unfold ac_tilt
  rw [if_neg (e_ok (by omega) (by decide)), if_neg (e_ok (by omega) (by decide)), sp_n_nI (by omega), sp_n_nI (by omega)]
  rfl
theorem v_same (h : s (13 + b) = a) : pp_v s b a = s := by
  funext j
  unfold pp_v
  by_cases c : j = 13 + b
  · rw [c, va_up_s, h]
  · exact va_up_n c
theorem pass_eq1 {v : Nat → Nat} {n : Nat} (h1 : 1 ≤ n) (h2 : n ≤ 99) (h0 : v 0 + n ≤ 99999) : ac_pass v (nI n) = (nI (pp_L (sp_pass v n) - pp_L v), sp_pass v n) := by
  have hp := pass_fell (s := v) (n := n) (b := 0) (by decide)
  unfold ac_pass
  rw [if_neg (e_ok1 h1 h2 (by decide)), sp_n_nI (by omega), if_neg (by omega), L_acc, L_acc, e_sub (by omega)]
theorem e_n5 {n : Nat} (hn : n < 2 ^ 31) : (nI n = -5) = False := eq_false (fun q => by
  have : 0 ≤ nI n := by rw [e_0le hn]; trivial
  rw [q] at this
  exact absurd this (by decide))
end QT
