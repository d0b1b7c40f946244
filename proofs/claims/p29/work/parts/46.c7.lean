/-! THE CLASS: a state, its acts -/
def sp_loc (i j : Nat) : Prop := j = 13 + i ∨ j = 18 + i ∨ j = 23 + i ∨ (28 + 4 * i ≤ j ∧ j < 32 + 4 * i) ∨ (48 + 32 * i ≤ j ∧ j < 80 + 32 * i) ∨ (208 + 32 * i ≤ j ∧ j < 240 + 32 * i)
def sp_sep (s s' : Nat → Nat) (i : Nat) : Prop := ∀ j, j < 368 → ¬ sp_loc i j → s' j = s j
theorem tb_Ru.to4 {h : tb_heap} {a : Nat} {s s' : Nat → Nat} (hR : tb_Ru h a s) (hs : ∀ j, 1 ≤ j → j < 9 → j ≠ 4 → s j = s' j) : tb_Ru h a s' := by
  obtain ⟨a1, a2, a3, a4⟩ := hR
  refine ⟨a1, a2.to rfl (fun j hj => by rw [hs _ (by omega) (by omega) (by omega)]), a3.to rfl (fun j hj => by rw [hs _ (by omega) (by omega) (by omega)]), a4.to rfl (fun j hj => ?_)⟩
  rw [sp_kd_c (fun k hk => hs _ (by omega) (by omega) (by omega))]
theorem tb_B.of {h : tb_heap} {b i : Nat} {s s' : Nat → Nat} (hB : tb_B h b s i) (hs : ∀ j, j < 368 → sp_loc i j → s' j = s j) (hi : i < 5) : tb_B h b s' i := by
  unfold sp_loc at hs
  refine hB.to (hs _ (by omega) (by omega)).symm (hs _ (by omega) (by omega)).symm (hs _ (by omega) (by omega)).symm (fun j hj => (hs _ (by omega) (by omega)).symm) (fun j hj => (hs _ (by omega) (by omega)).symm) (fun j hj => ?_)
  unfold tb_mv
  exact (hs _ (by omega) (by omega)).symm
theorem tb_B.ne {h : tb_heap} {b i k : Nat} {s s' : Nat → Nat} (hB : tb_B h b s i) (hs : sp_sep s s' k) (hi : i < 5) (hk : k < 5) (hne : i ≠ k) : tb_B h b s' i :=
  hB.of (fun j hj hl => hs j hj (by unfold sp_loc at hl ⊢; omega)) hi
theorem tb_St.upB {h h' : tb_heap} {a i : Nat} {s s' : Nat → Nat} (hS : tb_St h a s) (hi : i < 5) (hB : tb_B h' (tb_ba a i) s' i) (hF : ∀ q, q < tb_ba a i ∨ tb_ba a i + 4 ≤ q → h' q = h q) (hs : sp_sep s s' i) : tb_St h' a s' := by
  obtain ⟨a1, a2, ⟨g, a3, a4⟩, a5, a6⟩ := hS
  have lo : ∀ j, j < 13 → s' j = s j := fun j hj => hs j (by omega) (by unfold sp_loc; omega)
  refine ⟨?_, (a2.fr (fun q h1 h2 => hF q (by unfold tb_ba; omega))).to (fun j h1 h2 => (lo j (by omega)).symm), ⟨g, (hF _ (by unfold tb_ba; omega)).trans a3, a4⟩, a5.to (hF _ (by unfold tb_ba; omega)) (fun j hj => by rw [lo _ (by omega)]), fun j hj => ?_⟩
  · rw [lo 4 (by decide), lo 0 (by decide)]
    exact (hF a (by unfold tb_ba; omega)).trans a1
  · by_cases e : j = i
    · subst e; exact hB
    · exact (show tb_B h' (tb_ba a j) s j from (a6 j hj).fr (fun q h1 h2 => hF q (by unfold tb_ba at *; omega))).ne hs hj hi e
/-- a state of which only what lies outside the boards has changed -/
theorem tb_St.upO {h h' : tb_heap} {a : Nat} {s s' : Nat → Nat} (hS : tb_St h a s) (h0 : tb_So h' a (nI (s' 4)) (nI (s' 0))) (hR : tb_Ru h' (a + 1) s') (hP : tb_isA h' (a + 6) 0 4 (fun k => nI (s' (9 + k)))) (hF : ∀ q, tb_ba a 0 ≤ q ∨ q = a + 5 → h' q = h q) (hs : ∀ j, 13 ≤ j → j < 368 → s' j = s j) : tb_St h' a s' := by
  obtain ⟨a1, a2, ⟨g, a3, a4⟩, a5, a6⟩ := hS
  refine ⟨h0, hR, ⟨g, (hF _ (Or.inr rfl)).trans a3, a4⟩, hP, fun j hj => ?_⟩
  exact (show tb_B h' (tb_ba a j) s j from (a6 j hj).fr (fun q h1 h2 => hF q (Or.inl (by unfold tb_ba at *; omega)))).of (fun k hk hl => hs k (by unfold sp_loc at hl; omega) hk) hj
section C7
variable {E : tb_env} {d : Nat} {h : tb_heap} {nx : Nat} {Q : Option Value → tb_heap → Nat → Prop} {a : Nat} {s : Nat → Nat}
theorem s_copy_l {o : Nat} {s' : Nat → Nat} {em ti : Int32} {F : Nat → Int32} (hm : sp_mb s) (hoa : o + 27 ≤ a ∨ a + 27 ≤ o) (hd : 2 ≤ d) (n : Nat) : ∀ (j : Nat) (h : tb_heap), j + n = 5 → tb_St h o s → tb_So h a em ti → tb_Ru h (a + 1) s → tb_Sr h a → tb_isA h (a + 6) 0 4 F → (∀ i, i < 5 → tb_B h (tb_ba a i) (if i < j then s else s') i) → (∀ h', tb_St h' a s → (∀ q, q < a ∨ a + 27 ≤ q → h' q = h q) → Q none h' nx) →
    tb_wp E d 27 13 [.ref a, .ref o, .int (nI j)] [] h nx 0 0 Q := by
  induction n with
  | zero =>
    intro j h hj hA h0 hR hr hP hB hQ
    have ej : j = 5 := by omega
    subst ej
    have gA := hA.1.g
    have gB := h0.g
    simp (disch := first | assumption | omega | exact tb_sm0 | exact tb_sm1 _ | exact tb_sm2 _ _ | exact tb_sm3 _ _ _ | exact tb_sm4 _ _ _ _ | exact Or.inl rfl | exact Or.inr rfl | fail) only [r27_0, r27_1, r27_4, r27_5, r27_8, r27_11, r27_12, r27_13, r27_14, r27_15, r27_18, r27_19, r27_22, r27_23, r27_24, r27_25, r27_28, r27_29, r27_30, r27_33, r27_36, r27_39, r27_40, r27_43, r27_44, r27_45, r27_48, r27_49, r27_50, r27_53, r27_54, r27_55, r27_58, r27_61, r27_62, r27_63, r27_66, r27_69, gA, gB, tb_vl_some, tb_vl_none, tb_wF_some, nI_add, pk_mul, e_sub, e_div, tb_nmod, e_dec, e_le, e_lt, e_eq, e_eq0, e_lt0, e_0le, e_0lt, e_le0, if_true, if_false, not_true_eq_false, not_false_eq_true, ite_true, ite_false, Nat.reduceAdd, Nat.reduceMul, Nat.reduceLeDiff, Nat.reduceLT, Nat.reduceEqDiff, Nat.reduceSub, ↓reduceIte, Nat.reduceDiv, Nat.reduceMod]
    refine hA.2.2.2.1.cp hP (by decide) (by decide) (fun h2 hP2 hF2 => ?_)
    have A2 := hA.fr (fun q q1 q2 => hF2 q (by omega))
    have gA2 := A2.1.g
    simp (disch := first | assumption | omega | exact tb_sm0 | exact tb_sm1 _ | exact tb_sm2 _ _ | exact tb_sm3 _ _ _ | exact tb_sm4 _ _ _ _ | exact Or.inl rfl | exact Or.inr rfl | fail) only [r27_0, r27_1, r27_4, r27_5, r27_8, r27_11, r27_12, r27_13, r27_14, r27_15, r27_18, r27_19, r27_22, r27_23, r27_24, r27_25, r27_28, r27_29, r27_30, r27_33, r27_36, r27_39, r27_40, r27_43, r27_44, r27_45, r27_48, r27_49, r27_50, r27_53, r27_54, r27_55, r27_58, r27_61, r27_62, r27_63, r27_66, r27_69, gA2, tb_vl_some, tb_vl_none, tb_wF_some, nI_add, pk_mul, e_sub, e_div, tb_nmod, e_dec, e_le, e_lt, e_eq, e_eq0, e_lt0, e_0le, e_0lt, e_le0, if_true, if_false, not_true_eq_false, not_false_eq_true, ite_true, ite_false, Nat.reduceAdd, Nat.reduceMul, Nat.reduceLeDiff, Nat.reduceLT, Nat.reduceEqDiff, Nat.reduceSub, ↓reduceIte, Nat.reduceDiv, Nat.reduceMod]
    refine tb_pf_ok ((hF2 a (by omega)).trans h0) (by simp) (fun h3 h31 h32 => ?_)
    have A3 := A2.fr (fun q q1 q2 => h32 q (by omega))
    have gA3 := A3.1.g
    simp (disch := first | assumption | omega | exact tb_sm0 | exact tb_sm1 _ | exact tb_sm2 _ _ | exact tb_sm3 _ _ _ | exact tb_sm4 _ _ _ _ | exact Or.inl rfl | exact Or.inr rfl | fail) only [r27_0, r27_1, r27_4, r27_5, r27_8, r27_11, r27_12, r27_13, r27_14, r27_15, r27_18, r27_19, r27_22, r27_23, r27_24, r27_25, r27_28, r27_29, r27_30, r27_33, r27_36, r27_39, r27_40, r27_43, r27_44, r27_45, r27_48, r27_49, r27_50, r27_53, r27_54, r27_55, r27_58, r27_61, r27_62, r27_63, r27_66, r27_69, gA3, tb_vl_some, tb_vl_none, tb_wF_some, nI_add, pk_mul, e_sub, e_div, tb_nmod, e_dec, e_le, e_lt, e_eq, e_eq0, e_lt0, e_0le, e_0lt, e_le0, if_true, if_false, not_true_eq_false, not_false_eq_true, ite_true, ite_false, Nat.reduceAdd, Nat.reduceMul, Nat.reduceLeDiff, Nat.reduceLT, Nat.reduceEqDiff, Nat.reduceSub, ↓reduceIte, Nat.reduceDiv, Nat.reduceMod]
    refine tb_pf_ok h31 (by simp) (fun h4 h41 h42 => ?_)
    try simp (disch := first | assumption | omega | exact tb_sm0 | exact tb_sm1 _ | exact tb_sm2 _ _ | exact tb_sm3 _ _ _ | exact tb_sm4 _ _ _ _ | exact Or.inl rfl | exact Or.inr rfl | fail) only [r27_0, r27_1, r27_4, r27_5, r27_8, r27_11, r27_12, r27_13, r27_14, r27_15, r27_18, r27_19, r27_22, r27_23, r27_24, r27_25, r27_28, r27_29, r27_30, r27_33, r27_36, r27_39, r27_40, r27_43, r27_44, r27_45, r27_48, r27_49, r27_50, r27_53, r27_54, r27_55, r27_58, r27_61, r27_62, r27_63, r27_66, r27_69]
    have fr : ∀ q, q ≠ a → q ≠ a + 6 → h4 q = h q := fun q q1 q2 => by rw [h42 q q1, h32 q q1, hF2 q q2]
    obtain ⟨g, r1, r2⟩ := hr
    refine hQ h4 ⟨h41, hR.fr (fun q q1 q2 => fr q (by omega) (by omega)), ⟨g, (fr _ (by omega) (by omega)).trans r1, r2⟩, hP2.to (by rw [h42 _ (by omega), h32 _ (by omega)]) (fun _ _ => rfl), fun i hi => ?_⟩ (fun q hq => fr q (by omega) (by omega))
    have := hB i hi
    rw [if_pos hi] at this
    exact this.fr (fun q q1 q2 => fr q (by unfold tb_ba at *; omega) (by unfold tb_ba at *; omega))
  | succ n ih =>
    intro j h hj hA h0 hR hr hP hB hQ
    have gA := hA.1.g
    have gB := h0.g
    have hj5 : ¬ 5 ≤ j := by omega
    have hj' : j < 5 := by omega
    have Bj := hB j hj'
    rw [if_neg (by omega)] at Bj
    have oj := Bj.1.O
    simp (disch := first | assumption | omega | exact tb_sm0 | exact tb_sm1 _ | exact tb_sm2 _ _ | exact tb_sm3 _ _ _ | exact tb_sm4 _ _ _ _ | exact Or.inl rfl | exact Or.inr rfl | fail) only [r27_13, r27_14, r27_15, hj5, nI_add, pk_mul, e_sub, e_div, tb_nmod, e_dec, e_le, e_lt, e_eq, e_eq0, e_lt0, e_0le, e_0lt, e_le0, if_true, if_false, not_true_eq_false, not_false_eq_true, ite_true, ite_false, Nat.reduceAdd, Nat.reduceMul, Nat.reduceLeDiff, Nat.reduceLT, Nat.reduceEqDiff, Nat.reduceSub, ↓reduceIte, Nat.reduceDiv, Nat.reduceMod]
    simp (disch := first | assumption | omega | exact tb_sm0 | exact tb_sm1 _ | exact tb_sm2 _ _ | exact tb_sm3 _ _ _ | exact tb_sm4 _ _ _ _ | exact Or.inl rfl | exact Or.inr rfl | fail) only [r27_0, r27_1, r27_4, r27_5, r27_8, r27_11, r27_12, r27_14, r27_15, r27_18, r27_19, r27_22, r27_23, r27_24, r27_25, r27_28, r27_29, r27_30, r27_33, r27_36, r27_39, r27_40, r27_43, r27_44, r27_45, r27_48, r27_49, r27_50, r27_53, r27_54, r27_55, r27_58, r27_61, r27_62, r27_63, r27_66, r27_69, gA, gB, hA.A, hr.ld, tb_vl_some, tb_vl_none, tb_wF_some, nI_add, pk_mul, e_sub, e_div, tb_nmod, e_dec, e_le, e_lt, e_eq, e_eq0, e_lt0, e_0le, e_0lt, e_le0, if_true, if_false, not_true_eq_false, not_false_eq_true, ite_true, ite_false, Nat.reduceAdd, Nat.reduceMul, Nat.reduceLeDiff, Nat.reduceLT, Nat.reduceEqDiff, Nat.reduceSub, ↓reduceIte, Nat.reduceDiv, Nat.reduceMod]
    refine c_copyBoard (hm.B hj') (hA.B hj') Bj (by unfold tb_ba; omega) (by omega) (fun h2 hB2 hF2 => ?_)
    simp (disch := first | assumption | omega | exact tb_sm0 | exact tb_sm1 _ | exact tb_sm2 _ _ | exact tb_sm3 _ _ _ | exact tb_sm4 _ _ _ _ | exact Or.inl rfl | exact Or.inr rfl | fail) only [r27_0, r27_1, r27_4, r27_5, r27_8, r27_11, r27_12, r27_14, r27_15, r27_18, r27_19, r27_22, r27_23, r27_24, r27_25, r27_28, r27_29, r27_30, r27_33, r27_36, r27_39, r27_40, r27_43, r27_44, r27_45, r27_48, r27_49, r27_50, r27_53, r27_54, r27_55, r27_58, r27_61, r27_62, r27_63, r27_66, r27_69, tb_vl_some, tb_vl_none, tb_wF_some, nI_add, pk_mul, e_sub, e_div, tb_nmod, e_dec, e_le, e_lt, e_eq, e_eq0, e_lt0, e_0le, e_0lt, e_le0, if_true, if_false, not_true_eq_false, not_false_eq_true, ite_true, ite_false, Nat.reduceAdd, Nat.reduceMul, Nat.reduceLeDiff, Nat.reduceLT, Nat.reduceEqDiff, Nat.reduceSub, ↓reduceIte, Nat.reduceDiv, Nat.reduceMod]
    obtain ⟨g, r1, r2⟩ := hr
    refine ih (j + 1) h2 (by omega) (hA.fr (fun q q1 q2 => hF2 q (by unfold tb_ba; omega))) ((hF2 a (by unfold tb_ba; omega)).trans h0) (hR.fr (fun q q1 q2 => hF2 q (by unfold tb_ba; omega))) ⟨g, (hF2 _ (by unfold tb_ba; omega)).trans r1, r2⟩ (hP.to (hF2 _ (by unfold tb_ba; omega)) (fun _ _ => rfl)) (fun i hi => ?_) (fun h3 h31 h32 => hQ h3 h31 (fun q hq => by rw [h32 q hq, hF2 q (by unfold tb_ba; omega)]))
    by_cases e : i = j
    · subst e
      rw [if_pos (by omega)]
      exact hB2
    · have Bi := (hB i hi).fr (h' := h2) (fun q q1 q2 => hF2 q (by unfold tb_ba at *; omega))
      by_cases c : i < j
      · rw [if_pos c] at Bi
        rw [if_pos (by omega)]
        exact Bi
      · rw [if_neg c] at Bi
        rw [if_neg (by omega)]
        exact Bi
theorem s_copyFrom {o : Nat} {s' : Nat → Nat} (hm : sp_mb s) (hA : tb_St h o s) (hB : tb_St h a s') (hoa : o + 27 ≤ a ∨ a + 27 ≤ o) (hd : 2 ≤ d) (hQ : ∀ h', tb_St h' a s → (∀ q, q < a ∨ a + 27 ≤ q → h' q = h q) → Q none h' nx) :
    tb_wp E d 27 0 [.ref a, .ref o, .long 0] [] h nx 0 0 Q := by
  have gA := hA.1.g
  have gB := hB.1.g
  have oR := hB.2.1.O
  simp (disch := first | assumption | omega | exact tb_sm0 | exact tb_sm1 _ | exact tb_sm2 _ _ | exact tb_sm3 _ _ _ | exact tb_sm4 _ _ _ _ | exact Or.inl rfl | exact Or.inr rfl | fail) only [r27_0, r27_1, r27_4, r27_5, r27_8, r27_11, r27_12, r27_14, r27_15, r27_18, r27_19, r27_22, r27_23, r27_24, r27_25, r27_28, r27_29, r27_30, r27_33, r27_36, r27_39, r27_40, r27_43, r27_44, r27_45, r27_48, r27_49, r27_50, r27_53, r27_54, r27_55, r27_58, r27_61, r27_62, r27_63, r27_66, r27_69, gA, gB, tb_vl_some, tb_vl_none, tb_wF_some]
  refine c_copyRules hA.2.1 hB.2.1 (by omega) (by omega) (fun h2 hR2 hF2 => ?_)
  simp (disch := first | assumption | omega | exact tb_sm0 | exact tb_sm1 _ | exact tb_sm2 _ _ | exact tb_sm3 _ _ _ | exact tb_sm4 _ _ _ _ | exact Or.inl rfl | exact Or.inr rfl | fail) only [r27_0, r27_1, r27_4, r27_5, r27_8, r27_11, r27_12, r27_14, r27_15, r27_18, r27_19, r27_22, r27_23, r27_24, r27_25, r27_28, r27_29, r27_30, r27_33, r27_36, r27_39, r27_40, r27_43, r27_44, r27_45, r27_48, r27_49, r27_50, r27_53, r27_54, r27_55, r27_58, r27_61, r27_62, r27_63, r27_66, r27_69, tb_vl_some, tb_vl_none, tb_wF_some]
  obtain ⟨b1, b2, ⟨g, b3, b4⟩, b5, b6⟩ := hB
  refine s_copy_l (s' := s') hm hoa hd 5 0 h2 (by decide) (hA.fr (fun q q1 q2 => hF2 q (by omega))) ((hF2 a (by omega)).trans b1) hR2 ⟨g, (hF2 _ (by omega)).trans b3, b4⟩ (b5.to (hF2 _ (by omega)) (fun _ _ => rfl)) (fun i hi => ?_) (fun h3 h31 h32 => hQ h3 h31 (fun q hq => by rw [h32 q hq, hF2 q (by omega)]))
  rw [if_neg (by omega)]
  exact (b6 i hi).fr (fun q q1 q2 => hF2 q (by unfold tb_ba at *; omega))
theorem s_tilt {x y : Int32} (hS : tb_St h a s) (hI : sp_I s) (hd : 2 ≤ d) (hQ : ∀ h', tb_St h' a (ac_tilt s x y).2 → (∀ q, q < a ∨ a + 27 ≤ q → h' q = h q) → Q (some (.int (ac_tilt s x y).1)) h' nx) :
    tb_wp E d 28 0 [.ref a, .int x, .int y, .long 0] [] h nx 0 0 Q := by
  have g := hS.1.g
  rcases tb_gd x (show 4 < 2 ^ 31 by decide) with hb | ⟨b, hb, rfl⟩
  · have e : ac_tilt s x y = (-1, s) := by unfold ac_tilt; rw [if_pos hb]
    rw [e] at hQ
    simp (disch := first | assumption | omega | exact tb_sm0 | exact tb_sm1 _ | exact tb_sm2 _ _ | exact tb_sm3 _ _ _ | exact tb_sm4 _ _ _ _ | exact Or.inl rfl | exact Or.inr rfl | fail) only [r28_0, r28_1, r28_4, r28_7, r28_8, r28_9, r28_10, r28_11, r28_13, r28_16, r28_19, r28_21, r28_22, r28_23, r28_26, r28_27, r28_28, r28_31, r28_32, r28_33, r28_34, r28_37, r28_39, r28_40, r28_41, r28_44, r28_45, r28_46, r28_47, r28_50, r28_51, s_isBoard_no hb, tb_vl_some, tb_vl_none, tb_wF_some, nI_add, pk_mul, e_sub, e_div, tb_nmod, e_dec, e_le, e_lt, e_eq, e_eq0, e_lt0, e_0le, e_0lt, e_le0, if_true, if_false, not_true_eq_false, not_false_eq_true, ite_true, ite_false, Nat.reduceAdd, Nat.reduceMul, Nat.reduceLeDiff, Nat.reduceLT, Nat.reduceEqDiff, Nat.reduceSub, ↓reduceIte, Nat.reduceDiv, Nat.reduceMod]
    exact hQ h hS (fun _ _ => rfl)
  · rcases tb_gd y (show 90 < 2 ^ 31 by decide) with hc | ⟨v, hv, rfl⟩
    · have e : ac_tilt s (nI b) y = (-2, s) := by unfold ac_tilt; rw [if_neg (e_ok hb (by decide)), if_pos hc]
      rw [e] at hQ
      simp (disch := first | assumption | omega | exact tb_sm0 | exact tb_sm1 _ | exact tb_sm2 _ _ | exact tb_sm3 _ _ _ | exact tb_sm4 _ _ _ _ | exact Or.inl rfl | exact Or.inr rfl | fail) only [r28_0, r28_1, r28_4, r28_7, r28_8, r28_9, r28_10, r28_11, r28_13, r28_16, r28_19, r28_21, r28_22, r28_23, r28_26, r28_27, r28_28, r28_31, r28_32, r28_33, r28_34, r28_37, r28_39, r28_40, r28_41, r28_44, r28_45, r28_46, r28_47, r28_50, r28_51, s_isBoard, s_isWithin_no hc, tb_vl_some, tb_vl_none, tb_wF_some, nI_add, pk_mul, e_sub, e_div, tb_nmod, e_dec, e_le, e_lt, e_eq, e_eq0, e_lt0, e_0le, e_0lt, e_le0, if_true, if_false, not_true_eq_false, not_false_eq_true, ite_true, ite_false, Nat.reduceAdd, Nat.reduceMul, Nat.reduceLeDiff, Nat.reduceLT, Nat.reduceEqDiff, Nat.reduceSub, ↓reduceIte, Nat.reduceDiv, Nat.reduceMod]
      exact hQ h hS (fun _ _ => rfl)
    · have j1 := hI.2.2.2.1 b (by omega)
      have e : ac_tilt s (nI b) (nI v) = if s (13 + b) = v then (-5, s) else (nI (s (13 + b)), va_up s (13 + b) v) := by
        unfold ac_tilt
        rw [if_neg (e_ok hb (by decide)), if_neg (e_ok hv (by decide)), sp_n_nI (by omega), sp_n_nI (by omega)]
      rw [e] at hQ
      have hb5 : b < 5 := by omega
      have gb := hS.gb b hb5
      by_cases c : s (13 + b) = v
      · rw [if_pos c] at hQ
        simp (disch := first | assumption | omega | exact tb_sm0 | exact tb_sm1 _ | exact tb_sm2 _ _ | exact tb_sm3 _ _ _ | exact tb_sm4 _ _ _ _ | exact Or.inl rfl | exact Or.inr rfl | fail) only [r28_0, r28_1, r28_4, r28_7, r28_8, r28_9, r28_10, r28_11, r28_13, r28_16, r28_19, r28_21, r28_22, r28_23, r28_26, r28_27, r28_28, r28_31, r28_32, r28_33, r28_34, r28_37, r28_39, r28_40, r28_41, r28_44, r28_45, r28_46, r28_47, r28_50, r28_51, s_isBoard, s_isWithin (Nat.zero_le v) hv (by decide), g, hS.A, gb, c, tb_vl_some, tb_vl_none, tb_wF_some, nI_add, pk_mul, e_sub, e_div, tb_nmod, e_dec, e_le, e_lt, e_eq, e_eq0, e_lt0, e_0le, e_0lt, e_le0, if_true, if_false, not_true_eq_false, not_false_eq_true, ite_true, ite_false, Nat.reduceAdd, Nat.reduceMul, Nat.reduceLeDiff, Nat.reduceLT, Nat.reduceEqDiff, Nat.reduceSub, ↓reduceIte, Nat.reduceDiv, Nat.reduceMod]
        exact hQ h hS (fun _ _ => rfl)
      · rw [if_neg c] at hQ; dsimp only at hQ
        simp (disch := first | assumption | omega | exact tb_sm0 | exact tb_sm1 _ | exact tb_sm2 _ _ | exact tb_sm3 _ _ _ | exact tb_sm4 _ _ _ _ | exact Or.inl rfl | exact Or.inr rfl | fail) only [r28_0, r28_1, r28_4, r28_7, r28_8, r28_9, r28_10, r28_11, r28_13, r28_16, r28_19, r28_21, r28_22, r28_23, r28_26, r28_27, r28_28, r28_31, r28_32, r28_33, r28_34, r28_37, r28_39, r28_40, r28_41, r28_44, r28_45, r28_46, r28_47, r28_50, r28_51, s_isBoard, s_isWithin (Nat.zero_le v) hv (by decide), g, hS.A, gb, c, tb_vl_some, tb_vl_none, tb_wF_some, nI_add, pk_mul, e_sub, e_div, tb_nmod, e_dec, e_le, e_lt, e_eq, e_eq0, e_lt0, e_0le, e_0lt, e_le0, if_true, if_false, not_true_eq_false, not_false_eq_true, ite_true, ite_false, Nat.reduceAdd, Nat.reduceMul, Nat.reduceLeDiff, Nat.reduceLT, Nat.reduceEqDiff, Nat.reduceSub, ↓reduceIte, Nat.reduceDiv, Nat.reduceMod]
        refine (hS.B hb5).pf hb5 (Or.inl ⟨rfl, rfl⟩) (fun h2 hB2 hF2 => ?_)
        try simp (disch := first | assumption | omega | exact tb_sm0 | exact tb_sm1 _ | exact tb_sm2 _ _ | exact tb_sm3 _ _ _ | exact tb_sm4 _ _ _ _ | exact Or.inl rfl | exact Or.inr rfl | fail) only [r28_0, r28_1, r28_4, r28_7, r28_8, r28_9, r28_10, r28_11, r28_13, r28_16, r28_19, r28_21, r28_22, r28_23, r28_26, r28_27, r28_28, r28_31, r28_32, r28_33, r28_34, r28_37, r28_39, r28_40, r28_41, r28_44, r28_45, r28_46, r28_47, r28_50, r28_51]
        refine hQ h2 (hS.upB hb5 (hB2.to rfl rfl rfl (fun _ _ => rfl) (fun _ _ => rfl) (fun j hj => ?_)) (fun q hq => hF2 q (by omega)) (fun j hj hl => ?_)) (fun q hq => hF2 q (by unfold tb_ba; omega))
        · unfold tb_mv
          rw [va_up_n (by omega)]
        · unfold sp_loc at hl
          rw [va_up_n (by omega)]
theorem s_jolt {x : Int32} (hS : tb_St h a s) (hI : sp_I s) (hd : 2 ≤ d) (hQ : ∀ h', tb_St h' a (ac_jolt s x).2 → (∀ q, q < a ∨ a + 27 ≤ q → h' q = h q) → Q (some (.int (ac_jolt s x).1)) h' nx) :
    tb_wp E d 30 0 [.ref a, .int x, .long 0] [] h nx 0 0 Q := by
  have g := hS.1.g
  rcases tb_gd x (show 4 < 2 ^ 31 by decide) with hb | ⟨b, hb, rfl⟩
  · have e : ac_jolt s x = (-1, s) := by unfold ac_jolt; rw [if_pos hb]
    rw [e] at hQ
    simp (disch := first | assumption | omega | exact tb_sm0 | exact tb_sm1 _ | exact tb_sm2 _ _ | exact tb_sm3 _ _ _ | exact tb_sm4 _ _ _ _ | exact Or.inl rfl | exact Or.inr rfl | fail) only [r30_0, r30_1, r30_4, r30_7, r30_8, r30_9, r30_10, r30_13, r30_14, r30_15, r30_18, r30_19, r30_20, r30_23, r30_25, r30_26, r30_27, r30_30, r30_31, r30_32, r30_35, r30_36, s_isBoard_no hb, tb_vl_some, tb_vl_none, tb_wF_some, nI_add, pk_mul, e_sub, e_div, tb_nmod, e_dec, e_le, e_lt, e_eq, e_eq0, e_lt0, e_0le, e_0lt, e_le0, if_true, if_false, not_true_eq_false, not_false_eq_true, ite_true, ite_false, Nat.reduceAdd, Nat.reduceMul, Nat.reduceLeDiff, Nat.reduceLT, Nat.reduceEqDiff, Nat.reduceSub, ↓reduceIte, Nat.reduceDiv, Nat.reduceMod]
    exact hQ h hS (fun _ _ => rfl)
  · have e : ac_jolt s (nI b) = if sp_heaps s b = 0 then (-5, s) else (nI (sp_heaps s b), sp_jolt s b) := by
      unfold ac_jolt; rw [if_neg (e_ok hb (by decide)), sp_n_nI (by omega)]
    rw [e] at hQ
    have hb5 : b < 5 := by omega
    have ob := hS.Ob b hb5
    have hl := sp_heaps_le s b
    have hp := fun {Q'} => c_heapsLying (E := E) (d := d - 1) (nx := nx) (Q := Q') (hS.B hb5) hI hb5
    by_cases c : sp_heaps s b = 0
    · rw [if_pos c] at hQ
      simp (disch := first | assumption | omega | exact tb_sm0 | exact tb_sm1 _ | exact tb_sm2 _ _ | exact tb_sm3 _ _ _ | exact tb_sm4 _ _ _ _ | exact Or.inl rfl | exact Or.inr rfl | fail) only [r30_0, r30_1, r30_4, r30_7, r30_8, r30_9, r30_10, r30_13, r30_14, r30_15, r30_18, r30_19, r30_20, r30_23, r30_25, r30_26, r30_27, r30_30, r30_31, r30_32, r30_35, r30_36, s_isBoard, g, hS.A, hp, c, tb_vl_some, tb_vl_none, tb_wF_some, nI_add, pk_mul, e_sub, e_div, tb_nmod, e_dec, e_le, e_lt, e_eq, e_eq0, e_lt0, e_0le, e_0lt, e_le0, if_true, if_false, not_true_eq_false, not_false_eq_true, ite_true, ite_false, Nat.reduceAdd, Nat.reduceMul, Nat.reduceLeDiff, Nat.reduceLT, Nat.reduceEqDiff, Nat.reduceSub, ↓reduceIte, Nat.reduceDiv, Nat.reduceMod]
      exact hQ h hS (fun _ _ => rfl)
    · rw [if_neg c] at hQ; dsimp only at hQ
      simp (disch := first | assumption | omega | exact tb_sm0 | exact tb_sm1 _ | exact tb_sm2 _ _ | exact tb_sm3 _ _ _ | exact tb_sm4 _ _ _ _ | exact Or.inl rfl | exact Or.inr rfl | fail) only [r30_0, r30_1, r30_4, r30_7, r30_8, r30_9, r30_10, r30_13, r30_14, r30_15, r30_18, r30_19, r30_20, r30_23, r30_25, r30_26, r30_27, r30_30, r30_31, r30_32, r30_35, r30_36, s_isBoard, g, hS.A, hp, c, tb_vl_some, tb_vl_none, tb_wF_some, nI_add, pk_mul, e_sub, e_div, tb_nmod, e_dec, e_le, e_lt, e_eq, e_eq0, e_lt0, e_0le, e_0lt, e_le0, if_true, if_false, not_true_eq_false, not_false_eq_true, ite_true, ite_false, Nat.reduceAdd, Nat.reduceMul, Nat.reduceLeDiff, Nat.reduceLT, Nat.reduceEqDiff, Nat.reduceSub, ↓reduceIte, Nat.reduceDiv, Nat.reduceMod]
      refine c_moveAllHeaps (hS.B hb5) hI hb5 (fun h2 hB2 hF2 => ?_)
      try simp (disch := first | assumption | omega | exact tb_sm0 | exact tb_sm1 _ | exact tb_sm2 _ _ | exact tb_sm3 _ _ _ | exact tb_sm4 _ _ _ _ | exact Or.inl rfl | exact Or.inr rfl | fail) only [r30_0, r30_1, r30_4, r30_7, r30_8, r30_9, r30_10, r30_13, r30_14, r30_15, r30_18, r30_19, r30_20, r30_23, r30_25, r30_26, r30_27, r30_30, r30_31, r30_32, r30_35, r30_36, tb_vl_some, tb_vl_none, tb_wF_some]
      refine hQ h2 (hS.upB hb5 hB2 hF2 (fun j hj hl => ?_)) (fun q hq => hF2 q (by unfold tb_ba; omega))
      unfold sp_loc at hl
      unfold sp_jolt
      rw [if_neg (by omega)]
theorem s_pour {x y z w : Int32} (hS : tb_St h a s) (hI : sp_I s) (hd : 3 ≤ d) (hQ : ∀ h', tb_St h' a (ac_pour s x y z w).2 → (∀ q, q < a ∨ a + 27 ≤ q → h' q = h q) → Q (some (.int (ac_pour s x y z w).1)) h' nx) :
    tb_wp E d 29 0 [.ref a, .int x, .int y, .int z, .int w, .long 0] [] h nx 0 0 Q := by
  have g := hS.1.g
  rcases tb_place (x := x) (y := y) (z := z) with hp | ⟨b, c, k, hb, hc, hk, rfl, rfl, rfl⟩
  · have e : ac_pour s x y z w = (-1, s) := by unfold ac_pour; rw [if_pos hp]
    rw [e] at hQ
    simp (disch := first | assumption | omega | exact tb_sm0 | exact tb_sm1 _ | exact tb_sm2 _ _ | exact tb_sm3 _ _ _ | exact tb_sm4 _ _ _ _ | exact Or.inl rfl | exact Or.inr rfl | fail) only [r29_0, r29_1, r29_2, r29_3, r29_6, r29_9, r29_10, r29_11, r29_13, r29_14, r29_16, r29_19, r29_22, r29_24, r29_25, r29_26, r29_29, r29_30, r29_31, r29_33, r29_35, r29_36, r29_39, r29_41, r29_42, r29_44, r29_47, r29_49, r29_50, r29_52, r29_55, r29_56, r29_57, r29_60, r29_61, r29_62, r29_64, r29_65, r29_66, r29_67, r29_70, r29_71, r29_72, r29_73, r29_75, r29_76, r29_77, r29_79, r29_82, r29_83, r29_84, r29_87, r29_88, s_isPlace_no hp, tb_vl_some, tb_vl_none, tb_wF_some, nI_add, pk_mul, e_sub, e_div, tb_nmod, e_dec, e_le, e_lt, e_eq, e_eq0, e_lt0, e_0le, e_0lt, e_le0, if_true, if_false, not_true_eq_false, not_false_eq_true, ite_true, ite_false, Nat.reduceAdd, Nat.reduceMul, Nat.reduceLeDiff, Nat.reduceLT, Nat.reduceEqDiff, Nat.reduceSub, ↓reduceIte, Nat.reduceDiv, Nat.reduceMod]
    exact hQ h hS (fun _ _ => rfl)
  · rcases tb_gd1 w (show 99 < 2 ^ 31 by decide) with hw | ⟨n, hn1, hn, rfl⟩
    · have e : ac_pour s (nI b) (nI c) (nI k) w = (-2, s) := by unfold ac_pour; rw [if_neg (tb_place_ok hb hc hk), if_pos hw]
      rw [e] at hQ
      simp (disch := first | assumption | omega | exact tb_sm0 | exact tb_sm1 _ | exact tb_sm2 _ _ | exact tb_sm3 _ _ _ | exact tb_sm4 _ _ _ _ | exact Or.inl rfl | exact Or.inr rfl | fail) only [r29_0, r29_1, r29_2, r29_3, r29_6, r29_9, r29_10, r29_11, r29_13, r29_14, r29_16, r29_19, r29_22, r29_24, r29_25, r29_26, r29_29, r29_30, r29_31, r29_33, r29_35, r29_36, r29_39, r29_41, r29_42, r29_44, r29_47, r29_49, r29_50, r29_52, r29_55, r29_56, r29_57, r29_60, r29_61, r29_62, r29_64, r29_65, r29_66, r29_67, r29_70, r29_71, r29_72, r29_73, r29_75, r29_76, r29_77, r29_79, r29_82, r29_83, r29_84, r29_87, r29_88, s_isPlace (show b < 5 by omega) (show c < 8 by omega) (show k < 4 by omega), s_isWithin_no hw, tb_vl_some, tb_vl_none, tb_wF_some, nI_add, pk_mul, e_sub, e_div, tb_nmod, e_dec, e_le, e_lt, e_eq, e_eq0, e_lt0, e_0le, e_0lt, e_le0, if_true, if_false, not_true_eq_false, not_false_eq_true, ite_true, ite_false, Nat.reduceAdd, Nat.reduceMul, Nat.reduceLeDiff, Nat.reduceLT, Nat.reduceEqDiff, Nat.reduceSub, ↓reduceIte, Nat.reduceDiv, Nat.reduceMod]
      exact hQ h hS (fun _ _ => rfl)
    · have e : ac_pour s (nI b) (nI c) (nI k) (nI n) = if 99 < sp_on s b c + n then (-3, s) else (nI (s (48 + 32 * b + 4 * c + k) + n), sp_pour s b c k n) := by
        unfold ac_pour
        rw [if_neg (tb_place_ok hb hc hk), if_neg (e_ok1 hn1 hn (by decide)), sp_n_nI (by omega), sp_n_nI (by omega), sp_n_nI (by omega), sp_n_nI (by omega)]
      rw [e] at hQ
      have hb5 : b < 5 := by omega
      have hc8 : c < 8 := by omega
      have hk4 : k < 4 := by omega
      have ob := hS.Ob b hb5
      have gb := hS.gb b hb5
      have hon := hI.1 b c hb5 hc8
      have gr := fun {Q'} => c_grainsOn (E := E) (d := d - 1) (nx := nx) (Q := Q') (hS.B hb5) hc8
      have H : ∀ {K : Int32 → Prop}, tb_wF (tb_ld E h 0 (tb_ba a b + 1) (nI (c * 4 + k))) K = K (nI (s (48 + 32 * b + (c * 4 + k)))) := fun {K} => (hS.B hb5).H (by omega)
      have ei : 48 + 32 * b + (c * 4 + k) = 48 + 32 * b + 4 * c + k := by omega
      by_cases hf : 99 < sp_on s b c + n
      · have hf' : ¬ sp_on s b c + n ≤ 99 := by omega
        rw [if_pos hf] at hQ
        simp (disch := first | assumption | omega | exact tb_sm0 | exact tb_sm1 _ | exact tb_sm2 _ _ | exact tb_sm3 _ _ _ | exact tb_sm4 _ _ _ _ | exact Or.inl rfl | exact Or.inr rfl | fail) only [r29_0, r29_1, r29_2, r29_3, r29_6, r29_9, r29_10, r29_11, r29_13, r29_14, r29_16, r29_19, r29_22, r29_24, r29_25, r29_26, r29_29, r29_30, r29_31, r29_33, r29_35, r29_36, r29_39, r29_41, r29_42, r29_44, r29_47, r29_49, r29_50, r29_52, r29_55, r29_56, r29_57, r29_60, r29_61, r29_62, r29_64, r29_65, r29_66, r29_67, r29_70, r29_71, r29_72, r29_73, r29_75, r29_76, r29_77, r29_79, r29_82, r29_83, r29_84, r29_87, r29_88, s_isPlace hb5 hc8 hk4, s_isWithin hn1 hn (by decide), g, hS.A, gr, hf', tb_vl_some, tb_vl_none, tb_wF_some, nI_add, pk_mul, e_sub, e_div, tb_nmod, e_dec, e_le, e_lt, e_eq, e_eq0, e_lt0, e_0le, e_0lt, e_le0, if_true, if_false, not_true_eq_false, not_false_eq_true, ite_true, ite_false, Nat.reduceAdd, Nat.reduceMul, Nat.reduceLeDiff, Nat.reduceLT, Nat.reduceEqDiff, Nat.reduceSub, ↓reduceIte, Nat.reduceDiv, Nat.reduceMod]
        exact hQ h hS (fun _ _ => rfl)
      · have hf' : sp_on s b c + n ≤ 99 := by omega
        rw [if_neg hf] at hQ; dsimp only at hQ
        simp (disch := first | assumption | omega | exact tb_sm0 | exact tb_sm1 _ | exact tb_sm2 _ _ | exact tb_sm3 _ _ _ | exact tb_sm4 _ _ _ _ | exact Or.inl rfl | exact Or.inr rfl | fail) only [r29_0, r29_1, r29_2, r29_3, r29_6, r29_9, r29_10, r29_11, r29_13, r29_14, r29_16, r29_19, r29_22, r29_24, r29_25, r29_26, r29_29, r29_30, r29_31, r29_33, r29_35, r29_36, r29_39, r29_41, r29_42, r29_44, r29_47, r29_49, r29_50, r29_52, r29_55, r29_56, r29_57, r29_60, r29_61, r29_62, r29_64, r29_65, r29_66, r29_67, r29_70, r29_71, r29_72, r29_73, r29_75, r29_76, r29_77, r29_79, r29_82, r29_83, r29_84, r29_87, r29_88, s_isPlace hb5 hc8 hk4, s_isWithin hn1 hn (by decide), g, hS.A, gr, hf', gb, H, ei, c_indexOf, tb_vl_some, tb_vl_none, tb_wF_some, nI_add, pk_mul, e_sub, e_div, tb_nmod, e_dec, e_le, e_lt, e_eq, e_eq0, e_lt0, e_0le, e_0lt, e_le0, if_true, if_false, not_true_eq_false, not_false_eq_true, ite_true, ite_false, Nat.reduceAdd, Nat.reduceMul, Nat.reduceLeDiff, Nat.reduceLT, Nat.reduceEqDiff, Nat.reduceSub, ↓reduceIte, Nat.reduceDiv, Nat.reduceMod]
        refine (hS.B hb5).stH hb5 (by omega) (fun h2 hB2 hF2 => ?_)
        rw [ei] at hB2
        have g2 : tb_gf h2 a 4 2 = some (.ref (a + 6)) := (show tb_So h2 a _ _ from (hF2 a (by unfold tb_ba; omega)).trans hS.1).g.2.2.1
        have U2 := hS.2.2.2.1.to (hF2 (a + 6) (by unfold tb_ba; omega)) (fun _ _ => rfl)
        have U2l : ∀ {K : Int32 → Prop}, tb_wF (tb_ld E h2 0 (a + 6) (nI k)) K = K (nI (s (9 + k))) := fun {K} => U2.ld hk4 (by decide)
        simp (disch := first | assumption | omega | exact tb_sm0 | exact tb_sm1 _ | exact tb_sm2 _ _ | exact tb_sm3 _ _ _ | exact tb_sm4 _ _ _ _ | exact Or.inl rfl | exact Or.inr rfl | fail) only [r29_0, r29_1, r29_2, r29_3, r29_6, r29_9, r29_10, r29_11, r29_13, r29_14, r29_16, r29_19, r29_22, r29_24, r29_25, r29_26, r29_29, r29_30, r29_31, r29_33, r29_35, r29_36, r29_39, r29_41, r29_42, r29_44, r29_47, r29_49, r29_50, r29_52, r29_55, r29_56, r29_57, r29_60, r29_61, r29_62, r29_64, r29_65, r29_66, r29_67, r29_70, r29_71, r29_72, r29_73, r29_75, r29_76, r29_77, r29_79, r29_82, r29_83, r29_84, r29_87, r29_88, g2, U2l, tb_vl_some, tb_vl_none, tb_wF_some, nI_add, pk_mul, e_sub, e_div, tb_nmod, e_dec, e_le, e_lt, e_eq, e_eq0, e_lt0, e_0le, e_0lt, e_le0, if_true, if_false, not_true_eq_false, not_false_eq_true, ite_true, ite_false, Nat.reduceAdd, Nat.reduceMul, Nat.reduceLeDiff, Nat.reduceLT, Nat.reduceEqDiff, Nat.reduceSub, ↓reduceIte, Nat.reduceDiv, Nat.reduceMod]
        refine U2.st hk4 (by decide) (fun h3 hU3 hF3 => ?_)
        have hB3 := hB2.fr (h' := h3) (fun q q1 q2 => hF3 q (by unfold tb_ba at *; omega))
        have g3 := hB3.1.g
        have H3 : ∀ {K : Int32 → Prop}, tb_wF (tb_ld E h3 0 (tb_ba a b + 1) (nI (c * 4 + k))) K = K (nI (s (48 + 32 * b + 4 * c + k) + n)) := fun {K} => by rw [hB3.H (by omega), ei, va_up_s]
        simp (disch := first | assumption | omega | exact tb_sm0 | exact tb_sm1 _ | exact tb_sm2 _ _ | exact tb_sm3 _ _ _ | exact tb_sm4 _ _ _ _ | exact Or.inl rfl | exact Or.inr rfl | fail) only [r29_0, r29_1, r29_2, r29_3, r29_6, r29_9, r29_10, r29_11, r29_13, r29_14, r29_16, r29_19, r29_22, r29_24, r29_25, r29_26, r29_29, r29_30, r29_31, r29_33, r29_35, r29_36, r29_39, r29_41, r29_42, r29_44, r29_47, r29_49, r29_50, r29_52, r29_55, r29_56, r29_57, r29_60, r29_61, r29_62, r29_64, r29_65, r29_66, r29_67, r29_70, r29_71, r29_72, r29_73, r29_75, r29_76, r29_77, r29_79, r29_82, r29_83, r29_84, r29_87, r29_88, g3, H3, c_indexOf, tb_vl_some, tb_vl_none, tb_wF_some, nI_add, pk_mul, e_sub, e_div, tb_nmod, e_dec, e_le, e_lt, e_eq, e_eq0, e_lt0, e_0le, e_0lt, e_le0, if_true, if_false, not_true_eq_false, not_false_eq_true, ite_true, ite_false, Nat.reduceAdd, Nat.reduceMul, Nat.reduceLeDiff, Nat.reduceLT, Nat.reduceEqDiff, Nat.reduceSub, ↓reduceIte, Nat.reduceDiv, Nat.reduceMod]
        have hS2 : tb_St h2 a (va_up s (48 + 32 * b + 4 * c + k) (s (48 + 32 * b + 4 * c + k) + n)) := hS.upB hb5 (hB2.to rfl rfl rfl (fun _ _ => rfl) (fun _ _ => rfl) (fun j hj => by unfold tb_mv; rw [va_up_n (by omega)])) (fun q hq => hF2 q (by omega)) (fun j hj hl => by unfold sp_loc at hl; rw [va_up_n (by omega)])
        unfold sp_pour at hQ
        refine hQ h3 (hS2.upO ?_ ((hS2.2.1.fr (fun q q1 q2 => hF3 q (by omega))).to (fun j j1 j2 => (va_up_n (by omega)).symm)) (hU3.to rfl (fun j hj => ?_)) (fun q hq => hF3 q (by unfold tb_ba at hq; omega)) (fun j j1 j2 => by rw [va_up_n (by omega)])) (fun q hq => by rw [hF3 q (by omega), hF2 q (by unfold tb_ba; omega)])
        · rw [va_up_n (by omega), va_up_n (by omega), va_up_n (by omega), va_up_n (by omega)]
          exact (hF3 a (by omega)).trans ((hF2 a (by unfold tb_ba; omega)).trans hS.1)
        · unfold upd
          by_cases ej : j = k
          · rw [if_pos ej, ej, va_up_s]
          · rw [if_neg ej, va_up_n (by omega), va_up_n (by omega)]
theorem s_empty {x : Int32} (hS : tb_St h a s) (hJ : sp_J s) (hd : 2 ≤ d) (hQ : ∀ h', tb_St h' a (ac_empty s x).2 → (∀ q, q < a ∨ a + 27 ≤ q → h' q = h q) → Q (some (.int (ac_empty s x).1)) h' nx) :
    tb_wp E d 31 0 [.ref a, .int x, .long 0, .long 0] [] h nx 0 0 Q := by
  have g := hS.1.g
  rcases tb_gd x (show 4 < 2 ^ 31 by decide) with hb | ⟨b, hb, rfl⟩
  · have e : ac_empty s x = (-1, s) := by unfold ac_empty; rw [if_pos hb]
    rw [e] at hQ
    simp (disch := first | assumption | omega | exact tb_sm0 | exact tb_sm1 _ | exact tb_sm2 _ _ | exact tb_sm3 _ _ _ | exact tb_sm4 _ _ _ _ | exact Or.inl rfl | exact Or.inr rfl | fail) only [r31_0, r31_1, r31_4, r31_7, r31_8, r31_9, r31_10, r31_13, r31_14, r31_15, r31_18, r31_19, r31_20, r31_23, r31_25, r31_26, r31_27, r31_28, r31_29, r31_30, r31_33, r31_34, r31_37, r31_38, r31_39, r31_42, r31_43, r31_44, r31_45, r31_48, r31_51, r31_52i, r31_52, r31_53, r31_56, r31_57, r31_58, r31_61, r31_62, s_isBoard_no hb, tb_vl_some, tb_vl_none, tb_wF_some, nI_add, pk_mul, e_sub, e_div, tb_nmod, e_dec, e_le, e_lt, e_eq, e_eq0, e_lt0, e_0le, e_0lt, e_le0, if_true, if_false, not_true_eq_false, not_false_eq_true, ite_true, ite_false, Nat.reduceAdd, Nat.reduceMul, Nat.reduceLeDiff, Nat.reduceLT, Nat.reduceEqDiff, Nat.reduceSub, ↓reduceIte, Nat.reduceDiv, Nat.reduceMod]
    exact hQ h hS (fun _ _ => rfl)
  · have e : ac_empty s (nI b) = if sp_pan s b = 0 then (-5, s) else (nI (sp_pan s b), sp_empty s b) := by
      unfold ac_empty; rw [if_neg (e_ok hb (by decide)), sp_n_nI (by omega)]
    rw [e] at hQ
    have hb5 : b < 5 := by omega
    have ob := hS.Ob b hb5
    have hl := sp_pan_lt hJ hb5
    have hp := fun {Q'} => c_grainsInPan (E := E) (d := d - 1) (nx := nx) (Q := Q') (hS.B hb5)
    by_cases c : sp_pan s b = 0
    · rw [if_pos c] at hQ
      simp (disch := first | assumption | omega | exact tb_sm0 | exact tb_sm1 _ | exact tb_sm2 _ _ | exact tb_sm3 _ _ _ | exact tb_sm4 _ _ _ _ | exact Or.inl rfl | exact Or.inr rfl | fail) only [r31_0, r31_1, r31_4, r31_7, r31_8, r31_9, r31_10, r31_13, r31_14, r31_15, r31_18, r31_19, r31_20, r31_23, r31_25, r31_26, r31_27, r31_28, r31_29, r31_30, r31_33, r31_34, r31_37, r31_38, r31_39, r31_42, r31_43, r31_44, r31_45, r31_48, r31_51, r31_52i, r31_52, r31_53, r31_56, r31_57, r31_58, r31_61, r31_62, s_isBoard, g, hS.A, hp, c, tb_vl_some, tb_vl_none, tb_wF_some, nI_add, pk_mul, e_sub, e_div, tb_nmod, e_dec, e_le, e_lt, e_eq, e_eq0, e_lt0, e_0le, e_0lt, e_le0, if_true, if_false, not_true_eq_false, not_false_eq_true, ite_true, ite_false, Nat.reduceAdd, Nat.reduceMul, Nat.reduceLeDiff, Nat.reduceLT, Nat.reduceEqDiff, Nat.reduceSub, ↓reduceIte, Nat.reduceDiv, Nat.reduceMod]
      exact hQ h hS (fun _ _ => rfl)
    · rw [if_neg c] at hQ; dsimp only at hQ
      have gb := hS.gb b hb5
      simp (disch := first | assumption | omega | exact tb_sm0 | exact tb_sm1 _ | exact tb_sm2 _ _ | exact tb_sm3 _ _ _ | exact tb_sm4 _ _ _ _ | exact Or.inl rfl | exact Or.inr rfl | fail) only [r31_0, r31_1, r31_4, r31_7, r31_8, r31_9, r31_10, r31_13, r31_14, r31_15, r31_18, r31_19, r31_20, r31_23, r31_25, r31_26, r31_27, r31_28, r31_29, r31_30, r31_33, r31_34, r31_37, r31_38, r31_39, r31_42, r31_43, r31_44, r31_45, r31_48, r31_51, r31_52i, r31_52, r31_53, r31_56, r31_57, r31_58, r31_61, r31_62, s_isBoard, g, gb, hS.A, hp, c, tb_vl_some, tb_vl_none, tb_wF_some, nI_add, pk_mul, e_sub, e_div, tb_nmod, e_dec, e_le, e_lt, e_eq, e_eq0, e_lt0, e_0le, e_0lt, e_le0, if_true, if_false, not_true_eq_false, not_false_eq_true, ite_true, ite_false, Nat.reduceAdd, Nat.reduceMul, Nat.reduceLeDiff, Nat.reduceLT, Nat.reduceEqDiff, Nat.reduceSub, ↓reduceIte, Nat.reduceDiv, Nat.reduceMod]
      have key : ∀ (h1 : tb_heap), (∀ q, q ≠ tb_ba a b + 3 → h1 q = h q) → tb_gf h1 a 4 1 = some (.ref (a + 5)) ∧ tb_gf h1 a 4 3 = some (.int (nI (s 4))) ∧ tb_Sr h1 a ∧ tb_gf h1 (tb_ba a b) 0 2 = some (.ref (tb_ba a b + 3)) := by
        intro h1 hF1
        have s1 : tb_So h1 a _ _ := (hF1 a (by unfold tb_ba; omega)).trans hS.1
        obtain ⟨gg, r1, r2⟩ := hS.2.2.1
        refine ⟨s1.g.2.1, s1.g.2.2.2.1, ⟨gg, (hF1 _ (by unfold tb_ba; omega)).trans r1, r2⟩, ?_⟩
        unfold tb_gf
        rw [hF1 _ (by omega)]
        exact gb.2.2.1
      refine (hS.B hb5).stP hb5 (by decide) (fun h1 hB1 hF1 => ?_)
      obtain ⟨k1, k2, k3, k4⟩ := key h1 hF1
      simp (disch := first | assumption | omega | exact tb_sm0 | exact tb_sm1 _ | exact tb_sm2 _ _ | exact tb_sm3 _ _ _ | exact tb_sm4 _ _ _ _ | exact Or.inl rfl | exact Or.inr rfl | fail) only [r31_0, r31_1, r31_4, r31_7, r31_8, r31_9, r31_10, r31_13, r31_14, r31_15, r31_18, r31_19, r31_20, r31_23, r31_25, r31_26, r31_27, r31_28, r31_29, r31_30, r31_33, r31_34, r31_37, r31_38, r31_39, r31_42, r31_43, r31_44, r31_45, r31_48, r31_51, r31_52i, r31_52, r31_53, r31_56, r31_57, r31_58, r31_61, r31_62, k1, k3.ld, k4, tb_vl_some, tb_vl_none, tb_wF_some, nI_add, pk_mul, e_sub, e_div, tb_nmod, e_dec, e_le, e_lt, e_eq, e_eq0, e_lt0, e_0le, e_0lt, e_le0, if_true, if_false, not_true_eq_false, not_false_eq_true, ite_true, ite_false, Nat.reduceAdd, Nat.reduceMul, Nat.reduceLeDiff, Nat.reduceLT, Nat.reduceEqDiff, Nat.reduceSub, ↓reduceIte, Nat.reduceDiv, Nat.reduceMod]
      refine hB1.stP hb5 (by decide) (fun h2 hB2 hF2 => ?_)
      have F2 : ∀ q, q ≠ tb_ba a b + 3 → h2 q = h q := fun q hq => by rw [hF2 q hq, hF1 q hq]
      obtain ⟨l1, l2, l3, l4⟩ := key h2 F2
      simp (disch := first | assumption | omega | exact tb_sm0 | exact tb_sm1 _ | exact tb_sm2 _ _ | exact tb_sm3 _ _ _ | exact tb_sm4 _ _ _ _ | exact Or.inl rfl | exact Or.inr rfl | fail) only [r31_0, r31_1, r31_4, r31_7, r31_8, r31_9, r31_10, r31_13, r31_14, r31_15, r31_18, r31_19, r31_20, r31_23, r31_25, r31_26, r31_27, r31_28, r31_29, r31_30, r31_33, r31_34, r31_37, r31_38, r31_39, r31_42, r31_43, r31_44, r31_45, r31_48, r31_51, r31_52i, r31_52, r31_53, r31_56, r31_57, r31_58, r31_61, r31_62, l1, l3.ld, l4, tb_vl_some, tb_vl_none, tb_wF_some, nI_add, pk_mul, e_sub, e_div, tb_nmod, e_dec, e_le, e_lt, e_eq, e_eq0, e_lt0, e_0le, e_0lt, e_le0, if_true, if_false, not_true_eq_false, not_false_eq_true, ite_true, ite_false, Nat.reduceAdd, Nat.reduceMul, Nat.reduceLeDiff, Nat.reduceLT, Nat.reduceEqDiff, Nat.reduceSub, ↓reduceIte, Nat.reduceDiv, Nat.reduceMod]
      refine hB2.stP hb5 (by decide) (fun h3 hB3 hF3 => ?_)
      have F3 : ∀ q, q ≠ tb_ba a b + 3 → h3 q = h q := fun q hq => by rw [hF3 q hq, F2 q hq]
      obtain ⟨m1, m2, m3, m4⟩ := key h3 F3
      simp (disch := first | assumption | omega | exact tb_sm0 | exact tb_sm1 _ | exact tb_sm2 _ _ | exact tb_sm3 _ _ _ | exact tb_sm4 _ _ _ _ | exact Or.inl rfl | exact Or.inr rfl | fail) only [r31_0, r31_1, r31_4, r31_7, r31_8, r31_9, r31_10, r31_13, r31_14, r31_15, r31_18, r31_19, r31_20, r31_23, r31_25, r31_26, r31_27, r31_28, r31_29, r31_30, r31_33, r31_34, r31_37, r31_38, r31_39, r31_42, r31_43, r31_44, r31_45, r31_48, r31_51, r31_52i, r31_52, r31_53, r31_56, r31_57, r31_58, r31_61, r31_62, m1, m3.ld, m4, tb_vl_some, tb_vl_none, tb_wF_some, nI_add, pk_mul, e_sub, e_div, tb_nmod, e_dec, e_le, e_lt, e_eq, e_eq0, e_lt0, e_0le, e_0lt, e_le0, if_true, if_false, not_true_eq_false, not_false_eq_true, ite_true, ite_false, Nat.reduceAdd, Nat.reduceMul, Nat.reduceLeDiff, Nat.reduceLT, Nat.reduceEqDiff, Nat.reduceSub, ↓reduceIte, Nat.reduceDiv, Nat.reduceMod]
      refine hB3.stP hb5 (by decide) (fun h4 hB4 hF4 => ?_)
      have F4 : ∀ q, q ≠ tb_ba a b + 3 → h4 q = h q := fun q hq => by rw [hF4 q hq, F3 q hq]
      obtain ⟨n1, n2, n3, n4⟩ := key h4 F4
      simp (disch := first | assumption | omega | exact tb_sm0 | exact tb_sm1 _ | exact tb_sm2 _ _ | exact tb_sm3 _ _ _ | exact tb_sm4 _ _ _ _ | exact Or.inl rfl | exact Or.inr rfl | fail) only [r31_0, r31_1, r31_4, r31_7, r31_8, r31_9, r31_10, r31_13, r31_14, r31_15, r31_18, r31_19, r31_20, r31_23, r31_25, r31_26, r31_27, r31_28, r31_29, r31_30, r31_33, r31_34, r31_37, r31_38, r31_39, r31_42, r31_43, r31_44, r31_45, r31_48, r31_51, r31_52i, r31_52, r31_53, r31_56, r31_57, r31_58, r31_61, r31_62, n2, tb_vl_some, tb_vl_none, tb_wF_some, nI_add, pk_mul, e_sub, e_div, tb_nmod, e_dec, e_le, e_lt, e_eq, e_eq0, e_lt0, e_0le, e_0lt, e_le0, if_true, if_false, not_true_eq_false, not_false_eq_true, ite_true, ite_false, Nat.reduceAdd, Nat.reduceMul, Nat.reduceLeDiff, Nat.reduceLT, Nat.reduceEqDiff, Nat.reduceSub, ↓reduceIte, Nat.reduceDiv, Nat.reduceMod]
      refine tb_pf_ok ((F4 a (by unfold tb_ba; omega)).trans hS.1) (by simp) (fun h5 h51 h52 => ?_)
      try simp (disch := first | assumption | omega | exact tb_sm0 | exact tb_sm1 _ | exact tb_sm2 _ _ | exact tb_sm3 _ _ _ | exact tb_sm4 _ _ _ _ | exact Or.inl rfl | exact Or.inr rfl | fail) only [r31_0, r31_1, r31_4, r31_7, r31_8, r31_9, r31_10, r31_13, r31_14, r31_15, r31_18, r31_19, r31_20, r31_23, r31_25, r31_26, r31_27, r31_28, r31_29, r31_30, r31_33, r31_34, r31_37, r31_38, r31_39, r31_42, r31_43, r31_44, r31_45, r31_48, r31_51, r31_52i, r31_52, r31_53, r31_56, r31_57, r31_58, r31_61, r31_62]
      have hS4 : tb_St h4 a (va_up (va_up (va_up (va_up s (28 + 4 * b + 0) 0) (28 + 4 * b + 1) 0) (28 + 4 * b + 2) 0) (28 + 4 * b + 3) 0) := by
        refine hS.upB hb5 (hB4.to rfl rfl rfl (fun _ _ => rfl) (fun _ _ => rfl) (fun j hj => ?_)) (fun q hq => F4 q (by omega)) (fun j hj hl => ?_)
        · unfold tb_mv
          rw [va_up_n (by omega), va_up_n (by omega), va_up_n (by omega), va_up_n (by omega)]
        · unfold sp_loc at hl
          rw [va_up_n (by omega), va_up_n (by omega), va_up_n (by omega), va_up_n (by omega)]
      have e4 : ∀ j, ¬ j = 4 → sp_empty s b j = va_up (va_up (va_up (va_up s (28 + 4 * b + 0) 0) (28 + 4 * b + 1) 0) (28 + 4 * b + 2) 0) (28 + 4 * b + 3) 0 j := by
        intro j hj
        unfold sp_empty va_up
        by_cases c1 : 28 + 4 * b ≤ j ∧ j < 32 + 4 * b
        · rw [if_pos c1]
          repeat' split
          all_goals first | rfl | omega
        · rw [if_neg c1, if_neg hj, if_neg (by omega), if_neg (by omega), if_neg (by omega), if_neg (by omega)]
      refine hQ h5 (hS4.upO ?_ ((hS4.2.1.fr (fun q q1 q2 => h52 q (by omega))).to4 (fun j j1 j2 j3 => ?_)) ((hS4.2.2.2.1.to (h52 _ (by omega)) (fun j hj => by rw [e4 _ (by omega)]))) (fun q hq => h52 q (by unfold tb_ba at hq; omega)) (fun j j1 j2 => e4 j (by omega))) (fun q hq => by rw [h52 q (by omega), F4 q (by unfold tb_ba; omega)])
      · have z4 : sp_empty s b 4 = s 4 + sp_pan s b := by unfold sp_empty; rw [if_neg (by omega), if_pos rfl]
        have z0 : sp_empty s b 0 = s 0 := by unfold sp_empty; rw [if_neg (by omega), if_neg (by omega)]
        rw [z4, z0]
        exact h51
      · exact (e4 j j3).symm
end C7
