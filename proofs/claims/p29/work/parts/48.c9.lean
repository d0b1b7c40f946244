/-! THE CLASS: grips, settings, ticks of a state -/
section C9
variable {E : tb_env} {d : Nat} {h : tb_heap} {nx : Nat} {Q : Option Value → tb_heap → Nat → Prop} {a : Nat} {s : Nat → Nat}
theorem s_grip {x y : Int32} (hS : tb_St h a s) (hI : sp_I s) (hd : 2 ≤ d) (hQ : ∀ h', tb_St h' a (ac_grip s x y).2 → (∀ q, q < a ∨ a + 27 ≤ q → h' q = h q) → Q (some (.int (ac_grip s x y).1)) h' nx) :
    tb_wp E d 32 0 [.ref a, .int x, .int y, .long 0] [] h nx 0 0 Q := by
  have g := hS.1.g
  rcases tb_gd x (show 3 < 2 ^ 31 by decide) with hb | ⟨b, hb, rfl⟩
  · have e : ac_grip s x y = (-1, s) := by unfold ac_grip; rw [if_pos hb]
    rw [e] at hQ
    simp (disch := first | assumption | omega | exact tb_sm0 | exact tb_sm1 _ | exact tb_sm2 _ _ | exact tb_sm3 _ _ _ | exact tb_sm4 _ _ _ _ | exact Or.inl rfl | exact Or.inr rfl | fail) only [r32_0, r32_1, r32_4, r32_7, r32_8, r32_9, r32_10, r32_11, r32_13, r32_16, r32_19, r32_21, r32_22, r32_23, r32_26, r32_29, r32_30, r32_31, r32_32, r32_33, r32_34, r32_37, r32_39, r32_40, r32_41, r32_44, r32_45, r32_46, r32_49, r32_50, s_isKind_no hb, tb_vl_some, tb_vl_none, tb_wF_some, nI_add, pk_mul, e_sub, e_div, tb_nmod, e_dec, e_le, e_lt, e_eq, e_eq0, e_lt0, e_0le, e_0lt, e_le0, if_true, if_false, not_true_eq_false, not_false_eq_true, ite_true, ite_false, Nat.reduceAdd, Nat.reduceMul, Nat.reduceLeDiff, Nat.reduceLT, Nat.reduceEqDiff, Nat.reduceSub, ↓reduceIte, Nat.reduceDiv, Nat.reduceMod]
    exact hQ h hS (fun _ _ => rfl)
  · rcases tb_gd y (show 80 < 2 ^ 31 by decide) with hc | ⟨v, hv, rfl⟩
    · have e : ac_grip s (nI b) y = (-2, s) := by unfold ac_grip; rw [if_neg (e_ok hb (by decide)), if_pos hc]
      rw [e] at hQ
      simp (disch := first | assumption | omega | exact tb_sm0 | exact tb_sm1 _ | exact tb_sm2 _ _ | exact tb_sm3 _ _ _ | exact tb_sm4 _ _ _ _ | exact Or.inl rfl | exact Or.inr rfl | fail) only [r32_0, r32_1, r32_4, r32_7, r32_8, r32_9, r32_10, r32_11, r32_13, r32_16, r32_19, r32_21, r32_22, r32_23, r32_26, r32_29, r32_30, r32_31, r32_32, r32_33, r32_34, r32_37, r32_39, r32_40, r32_41, r32_44, r32_45, r32_46, r32_49, r32_50, s_isKind, s_isWithin_no hc, tb_vl_some, tb_vl_none, tb_wF_some, nI_add, pk_mul, e_sub, e_div, tb_nmod, e_dec, e_le, e_lt, e_eq, e_eq0, e_lt0, e_0le, e_0lt, e_le0, if_true, if_false, not_true_eq_false, not_false_eq_true, ite_true, ite_false, Nat.reduceAdd, Nat.reduceMul, Nat.reduceLeDiff, Nat.reduceLT, Nat.reduceEqDiff, Nat.reduceSub, ↓reduceIte, Nat.reduceDiv, Nat.reduceMod]
      exact hQ h hS (fun _ _ => rfl)
    · have hb4 : b < 4 := by omega
      have j1 := hI.2.2.1 b hb4
      have e : ac_grip s (nI b) (nI v) = if s (5 + b) = v then (-5, s) else (nI (s (5 + b)), va_up s (5 + b) v) := by
        unfold ac_grip
        rw [if_neg (e_ok hb (by decide)), if_neg (e_ok hv (by decide)), sp_n_nI (by omega), sp_n_nI (by omega)]
      rw [e] at hQ
      have gr := hS.2.1.g
      have oR := hS.2.1.O
      have G := fun {K : Int32 → Prop} => hS.2.1.G (E := E) hb4 (K := K)
      by_cases c : s (5 + b) = v
      · rw [if_pos c] at hQ
        simp (disch := first | assumption | omega | exact tb_sm0 | exact tb_sm1 _ | exact tb_sm2 _ _ | exact tb_sm3 _ _ _ | exact tb_sm4 _ _ _ _ | exact Or.inl rfl | exact Or.inr rfl | fail) only [r32_0, r32_1, r32_4, r32_7, r32_8, r32_9, r32_10, r32_11, r32_13, r32_16, r32_19, r32_21, r32_22, r32_23, r32_26, r32_29, r32_30, r32_31, r32_32, r32_33, r32_34, r32_37, r32_39, r32_40, r32_41, r32_44, r32_45, r32_46, r32_49, r32_50, s_isKind, s_isWithin (Nat.zero_le v) hv (by decide), g, gr, G, c, tb_vl_some, tb_vl_none, tb_wF_some, nI_add, pk_mul, e_sub, e_div, tb_nmod, e_dec, e_le, e_lt, e_eq, e_eq0, e_lt0, e_0le, e_0lt, e_le0, if_true, if_false, not_true_eq_false, not_false_eq_true, ite_true, ite_false, Nat.reduceAdd, Nat.reduceMul, Nat.reduceLeDiff, Nat.reduceLT, Nat.reduceEqDiff, Nat.reduceSub, ↓reduceIte, Nat.reduceDiv, Nat.reduceMod]
        exact hQ h hS (fun _ _ => rfl)
      · rw [if_neg c] at hQ; dsimp only at hQ
        simp (disch := first | assumption | omega | exact tb_sm0 | exact tb_sm1 _ | exact tb_sm2 _ _ | exact tb_sm3 _ _ _ | exact tb_sm4 _ _ _ _ | exact Or.inl rfl | exact Or.inr rfl | fail) only [r32_0, r32_1, r32_4, r32_7, r32_8, r32_9, r32_10, r32_11, r32_13, r32_16, r32_19, r32_21, r32_22, r32_23, r32_26, r32_29, r32_30, r32_31, r32_32, r32_33, r32_34, r32_37, r32_39, r32_40, r32_41, r32_44, r32_45, r32_46, r32_49, r32_50, s_isKind, s_isWithin (Nat.zero_le v) hv (by decide), g, gr, G, c, tb_vl_some, tb_vl_none, tb_wF_some, nI_add, pk_mul, e_sub, e_div, tb_nmod, e_dec, e_le, e_lt, e_eq, e_eq0, e_lt0, e_0le, e_0lt, e_le0, if_true, if_false, not_true_eq_false, not_false_eq_true, ite_true, ite_false, Nat.reduceAdd, Nat.reduceMul, Nat.reduceLeDiff, Nat.reduceLT, Nat.reduceEqDiff, Nat.reduceSub, ↓reduceIte, Nat.reduceDiv, Nat.reduceMod]
        refine c_changeGripOf hS.2.1 (fun k hk => by have := hI.2.2.1 k hk; omega) hb4 (by omega) (by omega) (fun h2 hR2 hF2 => ?_)
        try simp (disch := first | assumption | omega | exact tb_sm0 | exact tb_sm1 _ | exact tb_sm2 _ _ | exact tb_sm3 _ _ _ | exact tb_sm4 _ _ _ _ | exact Or.inl rfl | exact Or.inr rfl | fail) only [r32_0, r32_1, r32_4, r32_7, r32_8, r32_9, r32_10, r32_11, r32_13, r32_16, r32_19, r32_21, r32_22, r32_23, r32_26, r32_29, r32_30, r32_31, r32_32, r32_33, r32_34, r32_37, r32_39, r32_40, r32_41, r32_44, r32_45, r32_46, r32_49, r32_50, tb_vl_some, tb_vl_none, tb_wF_some]
        refine hQ h2 (hS.upO ?_ hR2 (hS.2.2.2.1.to (hF2 _ (by omega)) (fun j hj => by rw [va_up_n (by omega)])) (fun q hq => hF2 q (by unfold tb_ba at hq; omega)) (fun j j1 j2 => va_up_n (by omega))) (fun q hq => hF2 q (by omega))
        rw [va_up_n (by omega), va_up_n (by omega)]
        exact (hF2 a (by omega)).trans hS.1
def tb_SL (E : tb_env) (h : tb_heap) : Prop := tb_stat E ∧ ∀ k, k < 4 → h (E.1 k) = none
theorem tb_SL.ld {E : tb_env} {h : tb_heap} (hL : tb_SL E h) {w : Nat} (hw : w < 3) : (∀ {K : Int32 → Prop}, tb_wF (tb_ld E h 0 (E.1 2) (nI w)) K = K (nI w)) ∧ (∀ {K : Int32 → Prop}, tb_wF (tb_ld E h 0 (E.1 3) (nI w)) K = K (nI (if w = 0 then 30 else 99))) := by
  obtain ⟨⟨s0, s1, s2, s3⟩, hn⟩ := hL
  have e2 : tb_ld E h 0 (E.1 2) (nI w) = some (tb_fL w) := by
    unfold tb_ld tb_ra
    rw [hn 2 (by decide)]
    dsimp only
    rw [if_pos rfl, s2]
    dsimp only
    rw [nI_clamp (by omega), if_neg (fun q => q.elim (fun q => by rw [e_lt0 (by omega)] at q; exact q) (fun q => by omega))]
  have e3 : tb_ld E h 0 (E.1 3) (nI w) = some (tb_fM w) := by
    unfold tb_ld tb_ra
    rw [hn 3 (by decide)]
    dsimp only
    rw [if_pos rfl, s3]
    dsimp only
    rw [nI_clamp (by omega), if_neg (fun q => q.elim (fun q => by rw [e_lt0 (by omega)] at q; exact q) (fun q => by omega))]
  rw [e2, e3]
  rcases (by omega : w = 0 ∨ w = 1 ∨ w = 2) with rfl | rfl | rfl <;> exact ⟨fun {K} => rfl, fun {K} => rfl⟩
theorem s_set {x y : Int32} (hS : tb_St h a s) (hI : sp_I s) (hL : tb_SL E h) (hd : 2 ≤ d) (hQ : ∀ h', tb_St h' a (ac_set s x y).2 → (∀ q, q < a ∨ a + 27 ≤ q → h' q = h q) → Q (some (.int (ac_set s x y).1)) h' nx) :
    tb_wp E d 33 0 [.ref a, .int x, .int y, .long 0] [] h nx 0 0 Q := by
  have g := hS.1.g
  rcases tb_gd x (show 2 < 2 ^ 31 by decide) with hb | ⟨b, hb, rfl⟩
  · have e : ac_set s x y = (-1, s) := by unfold ac_set; rw [if_pos hb]
    rw [e] at hQ
    simp (disch := first | assumption | omega | exact tb_sm0 | exact tb_sm1 _ | exact tb_sm2 _ _ | exact tb_sm3 _ _ _ | exact tb_sm4 _ _ _ _ | exact Or.inl rfl | exact Or.inr rfl | fail) only [r33_0, r33_1, r33_2, r33_3, r33_6, r33_9, r33_10, r33_11, r33_12, r33_15, r33_16, r33_17, r33_20, r33_21, r33_22, r33_25, r33_28, r33_30, r33_31, r33_32, r33_35, r33_38, r33_39, r33_40, r33_41, r33_42, r33_43, r33_46, r33_48, r33_49, r33_50, r33_53, r33_56, r33_57, r33_58, r33_59, r33_60, s_isWithin_no hb, tb_vl_some, tb_vl_none, tb_wF_some, nI_add, pk_mul, e_sub, e_div, tb_nmod, e_dec, e_le, e_lt, e_eq, e_eq0, e_lt0, e_0le, e_0lt, e_le0, if_true, if_false, not_true_eq_false, not_false_eq_true, ite_true, ite_false, Nat.reduceAdd, Nat.reduceMul, Nat.reduceLeDiff, Nat.reduceLT, Nat.reduceEqDiff, Nat.reduceSub, ↓reduceIte, Nat.reduceDiv, Nat.reduceMod]
    exact hQ h hS (fun _ _ => rfl)
  · have hb3 : b < 3 := by omega
    obtain ⟨l2, l3⟩ := hL.ld hb3
    have hb31 : b < 2 ^ 31 := by omega
    have et : (if nI b = nI 0 then nI 30 else nI 99) = nI (if b = 0 then 30 else 99) := by
      by_cases c0 : b = 0
      · rw [if_pos c0, if_pos (by rw [c0])]
      · rw [if_neg c0, if_neg (by rw [nI_eq hb31 (by decide)]; exact c0)]
    have ht99 : (if b = 0 then 30 else 99) ≤ 99 := by split <;> decide
    generalize (if b = 0 then 30 else 99) = t at *
    by_cases hc : y < nI b ∨ nI t < y
    · have e : ac_set s (nI b) y = (-2, s) := by unfold ac_set; rw [if_neg (e_ok hb (by decide)), et, if_pos hc]
      rw [e] at hQ
      simp (disch := first | assumption | omega | exact tb_sm0 | exact tb_sm1 _ | exact tb_sm2 _ _ | exact tb_sm3 _ _ _ | exact tb_sm4 _ _ _ _ | exact Or.inl rfl | exact Or.inr rfl | fail) only [r33_0, r33_1, r33_2, r33_3, r33_6, r33_9, r33_10, r33_11, r33_12, r33_15, r33_16, r33_17, r33_20, r33_21, r33_22, r33_25, r33_28, r33_30, r33_31, r33_32, r33_35, r33_38, r33_39, r33_40, r33_41, r33_42, r33_43, r33_46, r33_48, r33_49, r33_50, r33_53, r33_56, r33_57, r33_58, r33_59, r33_60, s_isWithin (Nat.zero_le b) hb (by decide), l2, l3, s_isWithin_no hc, tb_vl_some, tb_vl_none, tb_wF_some, nI_add, pk_mul, e_sub, e_div, tb_nmod, e_dec, e_le, e_lt, e_eq, e_eq0, e_lt0, e_0le, e_0lt, e_le0, if_true, if_false, not_true_eq_false, not_false_eq_true, ite_true, ite_false, Nat.reduceAdd, Nat.reduceMul, Nat.reduceLeDiff, Nat.reduceLT, Nat.reduceEqDiff, Nat.reduceSub, ↓reduceIte, Nat.reduceDiv, Nat.reduceMod]
      exact hQ h hS (fun _ _ => rfl)
    · have hy0 : ¬ y < 0 := fun q => hc (Or.inl (by
        rw [Int32.lt_iff_toInt_lt] at q ⊢
        have e1 : (nI b).toInt = b := nI_toInt hb31
        rw [Int32.toInt_zero] at q
        omega))
      obtain ⟨v, hv31, rfl⟩ := nI_of (x := y) hy0
      have hab : b ≤ v ∧ v ≤ t := by
        rw [nI_ltI hv31 hb31, nI_ltI (by omega) hv31] at hc
        omega
      have j1 := hI.2.1
      have j2 : s (1 + b) ≤ 99 := by rcases (by omega : b = 0 ∨ b = 1 ∨ b = 2) with rfl | rfl | rfl <;> simp only [Nat.reduceAdd] <;> omega
      have e : ac_set s (nI b) (nI v) = if s (1 + b) = v then (-5, s) else (nI (s (1 + b)), va_up s (1 + b) v) := by
        unfold ac_set
        rw [if_neg (e_ok hb (by decide)), et, if_neg hc, sp_n_nI (by omega), sp_n_nI (by omega)]
      rw [e] at hQ
      have gr := hS.2.1.g
      have T := fun {K : Int32 → Prop} => hS.2.1.T (E := E) hb3 (K := K)
      have w2 := fun {Q' : Option Value → tb_heap → Nat → Prop} => s_isWithin (E := E) (d := d - 1) (h := h) (nx := nx) (Q := Q') hab.1 hab.2 (show t < 2 ^ 31 by omega)
      by_cases c : s (1 + b) = v
      · rw [if_pos c] at hQ
        simp (disch := first | assumption | omega | exact tb_sm0 | exact tb_sm1 _ | exact tb_sm2 _ _ | exact tb_sm3 _ _ _ | exact tb_sm4 _ _ _ _ | exact Or.inl rfl | exact Or.inr rfl | fail) only [r33_0, r33_1, r33_2, r33_3, r33_6, r33_9, r33_10, r33_11, r33_12, r33_15, r33_16, r33_17, r33_20, r33_21, r33_22, r33_25, r33_28, r33_30, r33_31, r33_32, r33_35, r33_38, r33_39, r33_40, r33_41, r33_42, r33_43, r33_46, r33_48, r33_49, r33_50, r33_53, r33_56, r33_57, r33_58, r33_59, r33_60, s_isWithin (Nat.zero_le b) hb (by decide), l2, l3, w2, g, gr, T, c, tb_vl_some, tb_vl_none, tb_wF_some, nI_add, pk_mul, e_sub, e_div, tb_nmod, e_dec, e_le, e_lt, e_eq, e_eq0, e_lt0, e_0le, e_0lt, e_le0, if_true, if_false, not_true_eq_false, not_false_eq_true, ite_true, ite_false, Nat.reduceAdd, Nat.reduceMul, Nat.reduceLeDiff, Nat.reduceLT, Nat.reduceEqDiff, Nat.reduceSub, ↓reduceIte, Nat.reduceDiv, Nat.reduceMod]
        exact hQ h hS (fun _ _ => rfl)
      · rw [if_neg c] at hQ; dsimp only at hQ
        simp (disch := first | assumption | omega | exact tb_sm0 | exact tb_sm1 _ | exact tb_sm2 _ _ | exact tb_sm3 _ _ _ | exact tb_sm4 _ _ _ _ | exact Or.inl rfl | exact Or.inr rfl | fail) only [r33_0, r33_1, r33_2, r33_3, r33_6, r33_9, r33_10, r33_11, r33_12, r33_15, r33_16, r33_17, r33_20, r33_21, r33_22, r33_25, r33_28, r33_30, r33_31, r33_32, r33_35, r33_38, r33_39, r33_40, r33_41, r33_42, r33_43, r33_46, r33_48, r33_49, r33_50, r33_53, r33_56, r33_57, r33_58, r33_59, r33_60, s_isWithin (Nat.zero_le b) hb (by decide), l2, l3, w2, g, gr, T, c, tb_vl_some, tb_vl_none, tb_wF_some, nI_add, pk_mul, e_sub, e_div, tb_nmod, e_dec, e_le, e_lt, e_eq, e_eq0, e_lt0, e_0le, e_0lt, e_le0, if_true, if_false, not_true_eq_false, not_false_eq_true, ite_true, ite_false, Nat.reduceAdd, Nat.reduceMul, Nat.reduceLeDiff, Nat.reduceLT, Nat.reduceEqDiff, Nat.reduceSub, ↓reduceIte, Nat.reduceDiv, Nat.reduceMod]
        refine hS.2.1.2.2.1.st hb3 (by decide) (fun h2 hA2 hF2 => ?_)
        try simp (disch := first | assumption | omega | exact tb_sm0 | exact tb_sm1 _ | exact tb_sm2 _ _ | exact tb_sm3 _ _ _ | exact tb_sm4 _ _ _ _ | exact Or.inl rfl | exact Or.inr rfl | fail) only [r33_0, r33_1, r33_2, r33_3, r33_6, r33_9, r33_10, r33_11, r33_12, r33_15, r33_16, r33_17, r33_20, r33_21, r33_22, r33_25, r33_28, r33_30, r33_31, r33_32, r33_35, r33_38, r33_39, r33_40, r33_41, r33_42, r33_43, r33_46, r33_48, r33_49, r33_50, r33_53, r33_56, r33_57, r33_58, r33_59, r33_60, tb_vl_some, tb_vl_none, tb_wF_some]
        obtain ⟨r1, r2, r3, r4⟩ := hS.2.1
        refine hQ h2 (hS.upO ?_ ⟨(hF2 _ (by omega)).trans r1, r2.to (hF2 _ (by omega)) (fun j hj => by rw [va_up_n (by omega)]), hA2.to rfl (fun j hj => ?_), r4.to (hF2 _ (by omega)) (fun j hj => by rw [sp_kd_c (s := s) (s' := va_up s (1 + b) v) (fun k hk => (va_up_n (by omega)).symm)])⟩ (hS.2.2.2.1.to (hF2 _ (by omega)) (fun j hj => by rw [va_up_n (by omega)])) (fun q hq => hF2 q (by unfold tb_ba at hq; omega)) (fun j j1 j2 => va_up_n (by omega))) (fun q hq => hF2 q (by omega))
        · rw [va_up_n (by omega), va_up_n (by omega)]
          exact (hF2 a (by omega)).trans hS.1
        · unfold upd va_up
          by_cases ej : j = b
          · rw [if_pos ej, if_pos (by omega)]
          · rw [if_neg ej, if_neg (by omega)]
theorem s_pass_i {t i : Nat} {fb : Value} (hi : i < 5) (ht : t ≤ 99) (hd : 4 ≤ d) (n : Nat) : ∀ (p : Nat) (h : tb_heap) (s : Nat → Nat), p + n = t → tb_St h a s → sp_I s → (∀ h' any' p', tb_St h' a (sp_t1 i n s) → (∀ q, q < a ∨ a + 27 ≤ q → h' q = h q) → tb_wp E d 34 77 [.ref a, .int (nI t), fb, .int (nI i), .int any', .int p'] [] h' nx 0 0 Q) →
    tb_wp E d 34 45 [.ref a, .int (nI t), fb, .int (nI i), .int (nI 1), .int (nI p)] [] h nx 0 0 Q := by
  induction n with
  | zero =>
    intro p h s hp hS hI hQ
    simp (disch := first | assumption | omega | exact tb_sm0 | exact tb_sm1 _ | exact tb_sm2 _ _ | exact tb_sm3 _ _ _ | exact tb_sm4 _ _ _ _ | exact Or.inl rfl | exact Or.inr rfl | fail) only [r34_45, r34_47, r34_48, nI_add, pk_mul, e_sub, e_div, tb_nmod, e_dec, e_le, e_lt, e_eq, e_eq0, e_lt0, e_0le, e_0lt, e_le0, if_true, if_false, not_true_eq_false, not_false_eq_true, ite_true, ite_false, Nat.reduceAdd, Nat.reduceMul, Nat.reduceLeDiff, Nat.reduceLT, Nat.reduceEqDiff, Nat.reduceSub, ↓reduceIte, Nat.reduceDiv, Nat.reduceMod]
    rw [if_pos (by omega)]
    exact hQ h _ _ hS (fun _ _ => rfl)
  | succ n ih =>
    intro p h s hp hS hI hQ
    have g := hS.1.g
    have ob := hS.Ob i hi
    have hpt : ¬ t ≤ p := by omega
    simp (disch := first | assumption | omega | exact tb_sm0 | exact tb_sm1 _ | exact tb_sm2 _ _ | exact tb_sm3 _ _ _ | exact tb_sm4 _ _ _ _ | exact Or.inl rfl | exact Or.inr rfl | fail) only [r34_45, r34_47, r34_48, hpt, nI_add, pk_mul, e_sub, e_div, tb_nmod, e_dec, e_le, e_lt, e_eq, e_eq0, e_lt0, e_0le, e_0lt, e_le0, if_true, if_false, not_true_eq_false, not_false_eq_true, ite_true, ite_false, Nat.reduceAdd, Nat.reduceMul, Nat.reduceLeDiff, Nat.reduceLT, Nat.reduceEqDiff, Nat.reduceSub, ↓reduceIte, Nat.reduceDiv, Nat.reduceMod]
    simp (disch := first | assumption | omega | exact tb_sm0 | exact tb_sm1 _ | exact tb_sm2 _ _ | exact tb_sm3 _ _ _ | exact tb_sm4 _ _ _ _ | exact Or.inl rfl | exact Or.inr rfl | fail) only [r34_0, r34_1, r34_2, r34_4, r34_7, r34_10, r34_12, r34_13, r34_14, r34_17, r34_18, r34_19, r34_21, r34_24, r34_26, r34_27, r34_28, r34_31, r34_32, r34_33, r34_34, r34_35, r34_36, r34_39, r34_40, r34_42, r34_43, r34_47, r34_48, r34_51, r34_53, r34_56, r34_57, r34_60, r34_61, r34_62, r34_63, r34_66, r34_69, r34_71, r34_74, r34_80, r34_83, r34_84i, r34_84, r34_85, r34_88, r34_89, r34_90, r34_93, r34_94, r34_97, r34_98, r34_99, g, hS.A, tb_vl_some, tb_vl_none, tb_wF_some, nI_add, pk_mul, e_sub, e_div, tb_nmod, e_dec, e_le, e_lt, e_eq, e_eq0, e_lt0, e_0le, e_0lt, e_le0, if_true, if_false, not_true_eq_false, not_false_eq_true, ite_true, ite_false, Nat.reduceAdd, Nat.reduceMul, Nat.reduceLeDiff, Nat.reduceLT, Nat.reduceEqDiff, Nat.reduceSub, ↓reduceIte, Nat.reduceDiv, Nat.reduceMod]
    refine c_slideOnce (hS.B hi) hS.2.1 hI hi (by unfold tb_ba; omega) (by omega) (fun h2 hB2 hF2 => ?_)
    have hS2 : tb_St h2 a (sp_tick s i) := hS.upB hi hB2 hF2 (fun j hj hl => sep_tick hl)
    have fr : ∀ q, q < a ∨ a + 27 ≤ q → h2 q = h q := fun q hq => hF2 q (by unfold tb_ba; omega)
    simp (disch := first | assumption | omega | exact tb_sm0 | exact tb_sm1 _ | exact tb_sm2 _ _ | exact tb_sm3 _ _ _ | exact tb_sm4 _ _ _ _ | exact Or.inl rfl | exact Or.inr rfl | fail) only [r34_0, r34_1, r34_2, r34_4, r34_7, r34_10, r34_12, r34_13, r34_14, r34_17, r34_18, r34_19, r34_21, r34_24, r34_26, r34_27, r34_28, r34_31, r34_32, r34_33, r34_34, r34_35, r34_36, r34_39, r34_40, r34_42, r34_43, r34_47, r34_48, r34_51, r34_53, r34_56, r34_57, r34_60, r34_61, r34_62, r34_63, r34_66, r34_69, r34_71, r34_74, r34_80, r34_83, r34_84i, r34_84, r34_85, r34_88, r34_89, r34_90, r34_93, r34_94, r34_97, r34_98, r34_99, tb_vl_some, tb_vl_none, tb_wF_some, nI_add, pk_mul, e_sub, e_div, tb_nmod, e_dec, e_le, e_lt, e_eq, e_eq0, e_lt0, e_0le, e_0lt, e_le0, if_true, if_false, not_true_eq_false, not_false_eq_true, ite_true, ite_false, Nat.reduceAdd, Nat.reduceMul, Nat.reduceLeDiff, Nat.reduceLT, Nat.reduceEqDiff, Nat.reduceSub, ↓reduceIte, Nat.reduceDiv, Nat.reduceMod]
    rcases (by have := sp_r1_le s i; omega : sp_r1 s i = 0 ∨ sp_r1 s i = 1) with hr | hr
    · rw [hr]
      exact ih (p + 1) h2 _ (by omega) hS2 (sp_I_tick hI hi) (fun h3 x y h31 h32 => hQ h3 x y h31 (fun q hq => by rw [h32 q hq, fr q hq]))
    · rw [hr]
      have rest : sp_rest s i := by
        rw [← sp_rb_t]
        unfold sp_r1 at hr
        cases hrb : sp_rb s i with
        | true => rfl
        | false => rw [hrb] at hr; cases hr
      have e : sp_t1 i (n + 1) s = sp_tick s i := by rw [sp_t1, rest_tick rest, rest_t1 rest hi]
      rw [e] at hQ
      have hq := fun x y => hQ h2 x y hS2 fr
      simp (disch := first | assumption | omega | exact tb_sm0 | exact tb_sm1 _ | exact tb_sm2 _ _ | exact tb_sm3 _ _ _ | exact tb_sm4 _ _ _ _ | exact Or.inl rfl | exact Or.inr rfl | fail) only [r34_45, r34_47, r34_48, nI_add, pk_mul, e_sub, e_div, tb_nmod, e_dec, e_le, e_lt, e_eq, e_eq0, e_lt0, e_0le, e_0lt, e_le0, if_true, if_false, not_true_eq_false, not_false_eq_true, ite_true, ite_false, Nat.reduceAdd, Nat.reduceMul, Nat.reduceLeDiff, Nat.reduceLT, Nat.reduceEqDiff, Nat.reduceSub, ↓reduceIte, Nat.reduceDiv, Nat.reduceMod]
      by_cases c : t ≤ p + 1
      · rw [if_pos c]
        exact hq _ _
      · rw [if_neg c]
        simp (disch := first | assumption | omega | exact tb_sm0 | exact tb_sm1 _ | exact tb_sm2 _ _ | exact tb_sm3 _ _ _ | exact tb_sm4 _ _ _ _ | exact Or.inl rfl | exact Or.inr rfl | fail) only [r34_0, r34_1, r34_2, r34_4, r34_7, r34_10, r34_12, r34_13, r34_14, r34_17, r34_18, r34_19, r34_21, r34_24, r34_26, r34_27, r34_28, r34_31, r34_32, r34_33, r34_34, r34_35, r34_36, r34_39, r34_40, r34_42, r34_43, r34_47, r34_48, r34_51, r34_53, r34_56, r34_57, r34_60, r34_61, r34_62, r34_63, r34_66, r34_69, r34_71, r34_74, r34_80, r34_83, r34_84i, r34_84, r34_85, r34_88, r34_89, r34_90, r34_93, r34_94, r34_97, r34_98, r34_99, nI_add, pk_mul, e_sub, e_div, tb_nmod, e_dec, e_le, e_lt, e_eq, e_eq0, e_lt0, e_0le, e_0lt, e_le0, if_true, if_false, not_true_eq_false, not_false_eq_true, ite_true, ite_false, Nat.reduceAdd, Nat.reduceMul, Nat.reduceLeDiff, Nat.reduceLT, Nat.reduceEqDiff, Nat.reduceSub, ↓reduceIte, Nat.reduceDiv, Nat.reduceMod]
        exact hq _ _
theorem s_pass_o {t i : Nat} {fb : Value} (hi : i < 5) (ht : t ≤ 99) (hd : 4 ≤ d) {y z : Value} (hS : tb_St h a s) (hI : sp_I s) (hQ : ∀ h' y' z', tb_St h' a (sp_t1 i t s) → (∀ q, q < a ∨ a + 27 ≤ q → h' q = h q) → tb_wp E d 34 34 [.ref a, .int (nI t), fb, .int (nI (i + 1)), y', z'] [] h' nx 0 0 Q) :
    tb_wp E d 34 34 [.ref a, .int (nI t), fb, .int (nI i), y, z] [] h nx 0 0 Q := by
  have hi5 : ¬ 5 ≤ i := by omega
  simp (disch := first | assumption | omega | exact tb_sm0 | exact tb_sm1 _ | exact tb_sm2 _ _ | exact tb_sm3 _ _ _ | exact tb_sm4 _ _ _ _ | exact Or.inl rfl | exact Or.inr rfl | fail) only [r34_34, r34_35, r34_36, hi5, nI_add, pk_mul, e_sub, e_div, tb_nmod, e_dec, e_le, e_lt, e_eq, e_eq0, e_lt0, e_0le, e_0lt, e_le0, if_true, if_false, not_true_eq_false, not_false_eq_true, ite_true, ite_false, Nat.reduceAdd, Nat.reduceMul, Nat.reduceLeDiff, Nat.reduceLT, Nat.reduceEqDiff, Nat.reduceSub, ↓reduceIte, Nat.reduceDiv, Nat.reduceMod]
  simp (disch := first | assumption | omega | exact tb_sm0 | exact tb_sm1 _ | exact tb_sm2 _ _ | exact tb_sm3 _ _ _ | exact tb_sm4 _ _ _ _ | exact Or.inl rfl | exact Or.inr rfl | fail) only [r34_39, r34_40, r34_42, r34_43]
  refine s_pass_i hi ht hd t 0 h s (by omega) hS hI (fun h2 x y hS2 hF2 => ?_)
  simp (disch := first | assumption | omega | exact tb_sm0 | exact tb_sm1 _ | exact tb_sm2 _ _ | exact tb_sm3 _ _ _ | exact tb_sm4 _ _ _ _ | exact Or.inl rfl | exact Or.inr rfl | fail) only [r34_77, r34_80, nI_add, pk_mul, e_sub, e_div, tb_nmod, e_dec, e_le, e_lt, e_eq, e_eq0, e_lt0, e_0le, e_0lt, e_le0, if_true, if_false, not_true_eq_false, not_false_eq_true, ite_true, ite_false, Nat.reduceAdd, Nat.reduceMul, Nat.reduceLeDiff, Nat.reduceLT, Nat.reduceEqDiff, Nat.reduceSub, ↓reduceIte, Nat.reduceDiv, Nat.reduceMod]
  exact hQ h2 _ _ hS2 hF2
theorem s_pass {x : Int32} (hS : tb_St h a s) (hW : sp_W s) (hd : 4 ≤ d) (hQ : ∀ h', tb_St h' a (ac_pass s x).2 → (∀ q, q < a ∨ a + 27 ≤ q → h' q = h q) → Q (some (.int (ac_pass s x).1)) h' nx) :
    tb_wp E d 34 0 [.ref a, .int x, .long 0, .long 0, .long 0, .long 0] [] h nx 0 0 Q := by
  have g := hS.1.g
  have hO := hS.1.O
  have hI := hW.1
  have j0 := hW.2.1
  rcases tb_gd1 x (show 99 < 2 ^ 31 by decide) with hx | ⟨t, ht1, ht, rfl⟩
  · have e : ac_pass s x = (-2, s) := by unfold ac_pass; rw [if_pos hx]
    rw [e] at hQ
    simp (disch := first | assumption | omega | exact tb_sm0 | exact tb_sm1 _ | exact tb_sm2 _ _ | exact tb_sm3 _ _ _ | exact tb_sm4 _ _ _ _ | exact Or.inl rfl | exact Or.inr rfl | fail) only [r34_0, r34_1, r34_2, r34_4, r34_7, r34_10, r34_12, r34_13, r34_14, r34_17, r34_18, r34_19, r34_21, r34_24, r34_26, r34_27, r34_28, r34_31, r34_32, r34_33, r34_35, r34_36, r34_39, r34_40, r34_42, r34_43, r34_47, r34_48, r34_51, r34_53, r34_56, r34_57, r34_60, r34_61, r34_62, r34_63, r34_66, r34_69, r34_71, r34_74, r34_77, r34_80, r34_83, r34_84i, r34_84, r34_85, r34_88, r34_89, r34_90, r34_93, r34_94, r34_97, r34_98, r34_99, s_isWithin_no hx, tb_vl_some, tb_vl_none, tb_wF_some, nI_add, pk_mul, e_sub, e_div, tb_nmod, e_dec, e_le, e_lt, e_eq, e_eq0, e_lt0, e_0le, e_0lt, e_le0, if_true, if_false, not_true_eq_false, not_false_eq_true, ite_true, ite_false, Nat.reduceAdd, Nat.reduceMul, Nat.reduceLeDiff, Nat.reduceLT, Nat.reduceEqDiff, Nat.reduceSub, ↓reduceIte, Nat.reduceDiv, Nat.reduceMod]
    exact hQ h hS (fun _ _ => rfl)
  · have e : ac_pass s (nI t) = if 99999 < s 0 + t then (-3, s) else (nI (sp_fell (sp_pass s t)) - nI (sp_fell s), sp_pass s t) := by
      unfold ac_pass
      rw [if_neg (e_ok1 ht1 ht (by decide)), sp_n_nI (by omega)]
    rw [e] at hQ
    by_cases c : 99999 < s 0 + t
    · have c' : ¬ s 0 + t ≤ 99999 := by omega
      rw [if_pos c] at hQ
      simp (disch := first | assumption | omega | exact tb_sm0 | exact tb_sm1 _ | exact tb_sm2 _ _ | exact tb_sm3 _ _ _ | exact tb_sm4 _ _ _ _ | exact Or.inl rfl | exact Or.inr rfl | fail) only [r34_0, r34_1, r34_2, r34_4, r34_7, r34_10, r34_12, r34_13, r34_14, r34_17, r34_18, r34_19, r34_21, r34_24, r34_26, r34_27, r34_28, r34_31, r34_32, r34_33, r34_35, r34_36, r34_39, r34_40, r34_42, r34_43, r34_47, r34_48, r34_51, r34_53, r34_56, r34_57, r34_60, r34_61, r34_62, r34_63, r34_66, r34_69, r34_71, r34_74, r34_77, r34_80, r34_83, r34_84i, r34_84, r34_85, r34_88, r34_89, r34_90, r34_93, r34_94, r34_97, r34_98, r34_99, s_isWithin ht1 ht (by decide), g, c', tb_vl_some, tb_vl_none, tb_wF_some, nI_add, pk_mul, e_sub, e_div, tb_nmod, e_dec, e_le, e_lt, e_eq, e_eq0, e_lt0, e_0le, e_0lt, e_le0, if_true, if_false, not_true_eq_false, not_false_eq_true, ite_true, ite_false, Nat.reduceAdd, Nat.reduceMul, Nat.reduceLeDiff, Nat.reduceLT, Nat.reduceEqDiff, Nat.reduceSub, ↓reduceIte, Nat.reduceDiv, Nat.reduceMod]
      exact hQ h hS (fun _ _ => rfl)
    · have c' : s 0 + t ≤ 99999 := by omega
      rw [if_neg c] at hQ; dsimp only at hQ
      simp (disch := first | assumption | omega | exact tb_sm0 | exact tb_sm1 _ | exact tb_sm2 _ _ | exact tb_sm3 _ _ _ | exact tb_sm4 _ _ _ _ | exact Or.inl rfl | exact Or.inr rfl | fail) only [r34_0, r34_1, r34_2, r34_4, r34_7, r34_10, r34_12, r34_13, r34_14, r34_17, r34_18, r34_19, r34_21, r34_24, r34_26, r34_27, r34_28, r34_31, r34_32, r34_33, r34_35, r34_36, r34_39, r34_40, r34_42, r34_43, r34_47, r34_48, r34_51, r34_53, r34_56, r34_57, r34_60, r34_61, r34_62, r34_63, r34_66, r34_69, r34_71, r34_74, r34_77, r34_80, r34_83, r34_84i, r34_84, r34_85, r34_88, r34_89, r34_90, r34_93, r34_94, r34_97, r34_98, r34_99, s_isWithin ht1 ht (by decide), g, c', s_fallen hS, tb_vl_some, tb_vl_none, tb_wF_some, nI_add, pk_mul, e_sub, e_div, tb_nmod, e_dec, e_le, e_lt, e_eq, e_eq0, e_lt0, e_0le, e_0lt, e_le0, if_true, if_false, not_true_eq_false, not_false_eq_true, ite_true, ite_false, Nat.reduceAdd, Nat.reduceMul, Nat.reduceLeDiff, Nat.reduceLT, Nat.reduceEqDiff, Nat.reduceSub, ↓reduceIte, Nat.reduceDiv, Nat.reduceMod]
      have I1 := sp_I_t1 (show 0 < 5 by decide) t s hI
      have I2 := sp_I_t1 (show 1 < 5 by decide) t _ I1
      have I3 := sp_I_t1 (show 2 < 5 by decide) t _ I2
      have I4 := sp_I_t1 (show 3 < 5 by decide) t _ I3
      refine s_pass_o (by decide) ht hd hS hI (fun h1 y1 z1 hS1 hF1 => ?_)
      refine s_pass_o (by decide) ht hd hS1 I1 (fun h2 y2 z2 hS2 hF2 => ?_)
      refine s_pass_o (by decide) ht hd hS2 I2 (fun h3 y3 z3 hS3 hF3 => ?_)
      refine s_pass_o (by decide) ht hd hS3 I3 (fun h4 y4 z4 hS4 hF4 => ?_)
      refine s_pass_o (by decide) ht hd hS4 I4 (fun h5 y5 z5 hS5 hF5 => ?_)
      have hS6 : tb_St h5 a (sp_tk 0 (t * 5) s) := hS5.of (pass_eq s t)
      have g6 := hS6.1.g
      simp (disch := first | assumption | omega | exact tb_sm0 | exact tb_sm1 _ | exact tb_sm2 _ _ | exact tb_sm3 _ _ _ | exact tb_sm4 _ _ _ _ | exact Or.inl rfl | exact Or.inr rfl | fail) only [r34_0, r34_1, r34_2, r34_4, r34_7, r34_10, r34_12, r34_13, r34_14, r34_17, r34_18, r34_19, r34_21, r34_24, r34_26, r34_27, r34_28, r34_31, r34_32, r34_33, r34_34, r34_35, r34_36, r34_39, r34_40, r34_42, r34_43, r34_47, r34_48, r34_51, r34_53, r34_56, r34_57, r34_60, r34_61, r34_62, r34_63, r34_66, r34_69, r34_71, r34_74, r34_77, r34_80, r34_83, r34_84i, r34_84, r34_85, r34_88, r34_89, r34_90, r34_93, r34_94, r34_97, r34_98, r34_99, g6, tb_vl_some, tb_vl_none, tb_wF_some, nI_add, pk_mul, e_sub, e_div, tb_nmod, e_dec, e_le, e_lt, e_eq, e_eq0, e_lt0, e_0le, e_0lt, e_le0, if_true, if_false, not_true_eq_false, not_false_eq_true, ite_true, ite_false, Nat.reduceAdd, Nat.reduceMul, Nat.reduceLeDiff, Nat.reduceLT, Nat.reduceEqDiff, Nat.reduceSub, ↓reduceIte, Nat.reduceDiv, Nat.reduceMod]
      refine tb_pf_ok hS6.1 (by simp) (fun h7 h71 h72 => ?_)
      have hS7 : tb_St h7 a (sp_pass s t) := by
        unfold sp_pass
        refine hS6.upO ?_ ((hS6.2.1.fr (fun q q1 q2 => h72 q (by omega))).to (fun j j1 j2 => (va_up_n (by omega)).symm)) (hS6.2.2.2.1.to (h72 _ (by omega)) (fun j hj => by rw [va_up_n (by omega)])) (fun q hq => h72 q (by unfold tb_ba at hq; omega)) (fun j j1 j2 => va_up_n (by omega))
        rw [va_up_s, va_up_n (by omega)]
        exact h71
      have hO7 := hS7.1.O
      simp (disch := first | assumption | omega | exact tb_sm0 | exact tb_sm1 _ | exact tb_sm2 _ _ | exact tb_sm3 _ _ _ | exact tb_sm4 _ _ _ _ | exact Or.inl rfl | exact Or.inr rfl | fail) only [r34_0, r34_1, r34_2, r34_4, r34_7, r34_10, r34_12, r34_13, r34_14, r34_17, r34_18, r34_19, r34_21, r34_24, r34_26, r34_27, r34_28, r34_31, r34_32, r34_33, r34_34, r34_35, r34_36, r34_39, r34_40, r34_42, r34_43, r34_47, r34_48, r34_51, r34_53, r34_56, r34_57, r34_60, r34_61, r34_62, r34_63, r34_66, r34_69, r34_71, r34_74, r34_77, r34_80, r34_83, r34_84i, r34_84, r34_85, r34_88, r34_89, r34_90, r34_93, r34_94, r34_97, r34_98, r34_99, s_fallen hS7, tb_vl_some, tb_vl_none, tb_wF_some]
      exact hQ h7 hS7 (fun q hq => by rw [h72 q (by omega), hF5 q hq, hF4 q hq, hF3 q hq, hF2 q hq, hF1 q hq])
end C9
