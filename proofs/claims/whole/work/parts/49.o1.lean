/-! THE CLASS: the reader of texts -/
def tb_OP (h : tb_heap) (t : Nat) (tx : Nat → Nat) (le : Nat) (r : Bool × Nat) (v : ps_V) : Prop := h t = some (.inl (2, [.ref (t + 1), .int (nI le), .int (nI r.2), .int (nI (ps_w r.1)), .int (nI v.1), .int (nI v.2.1), .int (nI v.2.2.1), .int (nI v.2.2.2.1), .int (nI v.2.2.2.2)])) ∧ tb_isA h (t + 1) 2 60 (fun j => nI (tx j))
theorem e_ltn {c lo : Nat} (h : c < 48) (hl : lo < 2 ^ 31) : nI c - nI 48 < nI lo := by
  have h1 : nI c - nI 48 < 0 := by rw [e_neg h (by decide)]; trivial
  have h2 : 0 ≤ nI lo := by rw [e_0le hl]; trivial
  exact Int32.lt_of_lt_of_le h1 h2
section O1
variable {E : tb_env} {d : Nat} {h : tb_heap} {nx : Nat} {Q : Option Value → tb_heap → Nat → Prop} {t : Nat} {tx : Nat → Nat} {le : Nat} {v : ps_V}
theorem tb_OP.g {r : Bool × Nat} (hP : tb_OP h t tx le r v) : tb_gf h t 2 0 = some (.ref (t + 1)) ∧ tb_gf h t 2 1 = some (.int (nI le)) ∧ tb_gf h t 2 2 = some (.int (nI r.2)) ∧ tb_gf h t 2 3 = some (.int (nI (ps_w r.1))) ∧ tb_gf h t 2 4 = some (.int (nI v.1)) ∧ tb_gf h t 2 5 = some (.int (nI v.2.1)) ∧ tb_gf h t 2 6 = some (.int (nI v.2.2.1)) ∧ tb_gf h t 2 7 = some (.int (nI v.2.2.2.1)) ∧ tb_gf h t 2 8 = some (.int (nI v.2.2.2.2)) := by
  unfold tb_gf
  rw [hP.1]
  exact ⟨rfl, rfl, rfl, rfl, rfl, rfl, rfl, rfl, rfl⟩
theorem tb_OP.O {r : Bool × Nat} (hP : tb_OP h t tx le r v) : tb_isO h t 2 := ⟨_, hP.1⟩
theorem tb_OP.ld {r : Bool × Nat} (hP : tb_OP h t tx le r v) {j : Nat} (hj : j < 60) {K : Int32 → Prop} : tb_wF (tb_ld E h 2 (t + 1) (nI j)) K = K (nI (tx j)) := hP.2.ld hj (by decide)
theorem tb_OP.fr {h' : tb_heap} {r : Bool × Nat} (hP : tb_OP h t tx le r v) (hF : ∀ q, t ≤ q → q < t + 2 → h' q = h q) : tb_OP h' t tx le r v := ⟨(hF t (by omega) (by omega)).trans hP.1, hP.2.to (hF _ (by omega) (by omega)) (fun _ _ => rfl)⟩
/-- a field of the reader is put -/
theorem tb_OP.pf {r : Bool × Nat} (hP : tb_OP h t tx le r v) {r' : Bool × Nat} {v' : ps_V} {le' k : Nat} {x : Value} (hk : k < 9) (hx : [Value.ref (t + 1), .int (nI le), .int (nI r.2), .int (nI (ps_w r.1)), .int (nI v.1), .int (nI v.2.1), .int (nI v.2.2.1), .int (nI v.2.2.2.1), .int (nI v.2.2.2.2)].set k x = [Value.ref (t + 1), .int (nI le'), .int (nI r'.2), .int (nI (ps_w r'.1)), .int (nI v'.1), .int (nI v'.2.1), .int (nI v'.2.2.1), .int (nI v'.2.2.2.1), .int (nI v'.2.2.2.2)]) {K : tb_heap → Prop} (hK : ∀ h', tb_OP h' t tx le' r' v' → (∀ q, q ≠ t → h' q = h q) → K h') : tb_wF (tb_pf h t 2 k x) K := by
  refine tb_pf_ok hP.1 (by simp; omega) (fun h' h1 h2 => hK h' ⟨?_, hP.2.to (h2 _ (by omega)) (fun _ _ => rfl)⟩ h2)
  rw [h1, hx]
theorem o_readSign {c : Nat} {r : Bool × Nat} (hP : tb_OP h t tx le r v) (hT : ∀ j, tx j < 65536) (h60 : le ≤ 60) (hc : c < 65536) (hr : r.2 ≤ 60) (hQ : ∀ h', tb_OP h' t tx le (ps_t tx le c c r) v → (∀ q, q ≠ t → h' q = h q) → Q none h' nx) :
    tb_wp E d 28 0 [.ref t, .int (nI c)] [] h nx 0 0 Q := by
  obtain ⟨ok, p⟩ := r
  have g0 := hP.g
  dsimp only at hr g0
  have hTp := hT p
  have bad : ¬ (ok = true ∧ p < le ∧ c ≤ tx p ∧ tx p ≤ c) → tb_wp E d 28 31 [.ref t, .int (nI c)] [] h nx 0 0 Q := by
    intro hn
    have e : ps_t tx le c c (ok, p) = (false, p) := by unfold ps_t; rw [if_neg hn]
    rw [e] at hQ
    simp (disch := first | assumption | omega | exact tb_sm0 | exact tb_sm1 _ | exact tb_sm2 _ _ | exact tb_sm3 _ _ _ | exact tb_sm4 _ _ _ _ | exact Or.inl rfl | exact Or.inr rfl | fail) only [r28_0, r28_1, r28_4, r28_7, r28_8, r28_11, r28_12, r28_15, r28_18, r28_19, r28_22, r28_23, r28_26, r28_27, r28_28, r28_31, r28_32, r28_33, r28_36, r28_37, r28_38i, r28_38, r28_39, r28_42, r28_43, r28_44, r28_47]
    refine hP.pf (r' := (false, p)) (v' := v) (le' := le) (by decide) rfl (fun h2 hP2 hF2 => ?_)
    try simp (disch := first | assumption | omega | exact tb_sm0 | exact tb_sm1 _ | exact tb_sm2 _ _ | exact tb_sm3 _ _ _ | exact tb_sm4 _ _ _ _ | exact Or.inl rfl | exact Or.inr rfl | fail) only [r28_0, r28_1, r28_4, r28_7, r28_8, r28_11, r28_12, r28_15, r28_18, r28_19, r28_22, r28_23, r28_26, r28_27, r28_28, r28_31, r28_32, r28_33, r28_36, r28_37, r28_38i, r28_38, r28_39, r28_42, r28_43, r28_44, r28_47]
    exact hQ h2 hP2 hF2
  cases ok with
  | false =>
    have b0 := bad (fun q => by cases q.1)
    have e0 : ps_w false = 1 := rfl
    simp (disch := first | assumption | omega | exact tb_sm0 | exact tb_sm1 _ | exact tb_sm2 _ _ | exact tb_sm3 _ _ _ | exact tb_sm4 _ _ _ _ | exact Or.inl rfl | exact Or.inr rfl | fail) only [r28_0, r28_1, r28_4, r28_7, r28_8, r28_11, r28_12, r28_15, r28_18, r28_19, r28_22, r28_23, r28_26, r28_27, r28_28, r28_32, r28_33, r28_36, r28_37, r28_38i, r28_38, r28_39, r28_42, r28_43, r28_44, r28_47, g0, e0, tb_vl_some, tb_vl_none, tb_wF_some, nI_add, pk_mul, e_sub, e_div, tb_nmod, e_dec, e_le, e_lt, e_eq, e_eq0, e_lt0, e_0le, e_0lt, e_le0, if_true, if_false, not_true_eq_false, not_false_eq_true, ite_true, ite_false, Nat.reduceAdd, Nat.reduceMul, Nat.reduceLeDiff, Nat.reduceLT, Nat.reduceEqDiff, Nat.reduceSub, ↓reduceIte, Nat.reduceDiv, Nat.reduceMod]
    exact b0
  | true =>
    have e0 : ps_w true = 0 := rfl
    by_cases c1 : p < le
    · have c1' : ¬ le ≤ p := by omega
      have hp60 : p < 60 := by omega
      by_cases c2 : tx p = c
      · have e : ps_t tx le c c (true, p) = (true, p + 1) := by unfold ps_t; rw [if_pos ⟨rfl, c1, by show c ≤ tx p; omega, by show tx p ≤ c; omega⟩]
        rw [e] at hQ
        simp (disch := first | assumption | omega | exact tb_sm0 | exact tb_sm1 _ | exact tb_sm2 _ _ | exact tb_sm3 _ _ _ | exact tb_sm4 _ _ _ _ | exact Or.inl rfl | exact Or.inr rfl | fail) only [r28_0, r28_1, r28_4, r28_7, r28_8, r28_11, r28_12, r28_15, r28_18, r28_19, r28_22, r28_23, r28_26, r28_27, r28_28, r28_31, r28_32, r28_33, r28_36, r28_37, r28_38i, r28_38, r28_39, r28_42, r28_43, r28_44, r28_47, g0, e0, c1', hP.ld, c2, tb_vl_some, tb_vl_none, tb_wF_some, nI_add, pk_mul, e_sub, e_div, tb_nmod, e_dec, e_le, e_lt, e_eq, e_eq0, e_lt0, e_0le, e_0lt, e_le0, if_true, if_false, not_true_eq_false, not_false_eq_true, ite_true, ite_false, Nat.reduceAdd, Nat.reduceMul, Nat.reduceLeDiff, Nat.reduceLT, Nat.reduceEqDiff, Nat.reduceSub, ↓reduceIte, Nat.reduceDiv, Nat.reduceMod]
        refine hP.pf (r' := (true, p + 1)) (v' := v) (le' := le) (by decide) rfl (fun h2 hP2 hF2 => ?_)
        try simp (disch := first | assumption | omega | exact tb_sm0 | exact tb_sm1 _ | exact tb_sm2 _ _ | exact tb_sm3 _ _ _ | exact tb_sm4 _ _ _ _ | exact Or.inl rfl | exact Or.inr rfl | fail) only [r28_0, r28_1, r28_4, r28_7, r28_8, r28_11, r28_12, r28_15, r28_18, r28_19, r28_22, r28_23, r28_26, r28_27, r28_28, r28_31, r28_32, r28_33, r28_36, r28_37, r28_38i, r28_38, r28_39, r28_42, r28_43, r28_44, r28_47]
        exact hQ h2 hP2 hF2
      · have b0 := bad (fun q => by omega)
        simp (disch := first | assumption | omega | exact tb_sm0 | exact tb_sm1 _ | exact tb_sm2 _ _ | exact tb_sm3 _ _ _ | exact tb_sm4 _ _ _ _ | exact Or.inl rfl | exact Or.inr rfl | fail) only [r28_0, r28_1, r28_4, r28_7, r28_8, r28_11, r28_12, r28_15, r28_18, r28_19, r28_22, r28_23, r28_26, r28_27, r28_28, r28_32, r28_33, r28_36, r28_37, r28_38i, r28_38, r28_39, r28_42, r28_43, r28_44, r28_47, g0, e0, c1', hP.ld, c2, tb_vl_some, tb_vl_none, tb_wF_some, nI_add, pk_mul, e_sub, e_div, tb_nmod, e_dec, e_le, e_lt, e_eq, e_eq0, e_lt0, e_0le, e_0lt, e_le0, if_true, if_false, not_true_eq_false, not_false_eq_true, ite_true, ite_false, Nat.reduceAdd, Nat.reduceMul, Nat.reduceLeDiff, Nat.reduceLT, Nat.reduceEqDiff, Nat.reduceSub, ↓reduceIte, Nat.reduceDiv, Nat.reduceMod]
        exact b0
    · have b0 := bad (fun q => c1 q.2.1)
      have c1' : le ≤ p := by omega
      simp (disch := first | assumption | omega | exact tb_sm0 | exact tb_sm1 _ | exact tb_sm2 _ _ | exact tb_sm3 _ _ _ | exact tb_sm4 _ _ _ _ | exact Or.inl rfl | exact Or.inr rfl | fail) only [r28_0, r28_1, r28_4, r28_7, r28_8, r28_11, r28_12, r28_15, r28_18, r28_19, r28_22, r28_23, r28_26, r28_27, r28_28, r28_32, r28_33, r28_36, r28_37, r28_38i, r28_38, r28_39, r28_42, r28_43, r28_44, r28_47, g0, e0, c1', tb_vl_some, tb_vl_none, tb_wF_some, nI_add, pk_mul, e_sub, e_div, tb_nmod, e_dec, e_le, e_lt, e_eq, e_eq0, e_lt0, e_0le, e_0lt, e_le0, if_true, if_false, not_true_eq_false, not_false_eq_true, ite_true, ite_false, Nat.reduceAdd, Nat.reduceMul, Nat.reduceLeDiff, Nat.reduceLT, Nat.reduceEqDiff, Nat.reduceSub, ↓reduceIte, Nat.reduceDiv, Nat.reduceMod]
      exact b0
theorem o_readDigit {lo hi : Nat} {r : Bool × Nat} (hP : tb_OP h t tx le r v) (hT : ∀ j, tx j < 65536) (h60 : le ≤ 60) (hlo : lo < 1000) (hhi : hi < 1000) (hr : r.2 ≤ 60) (hd : 1 ≤ d) (hQ : ∀ h', tb_OP h' t tx le (ps_t tx le (48 + lo) (48 + hi) r) v → (∀ q, q ≠ t → h' q = h q) → Q (some (.int (nI (if (ps_t tx le (48 + lo) (48 + hi) r).1 = true then tx r.2 - 48 else 0)))) h' nx) :
    tb_wp E d 29 0 [.ref t, .int (nI lo), .int (nI hi), .long 0] [] h nx 0 0 Q := by
  obtain ⟨ok, p⟩ := r
  have g0 := hP.g
  dsimp only at hr g0
  have hTp := hT p
  have bad : ¬ (ok = true ∧ p < le ∧ 48 + lo ≤ tx p ∧ tx p ≤ 48 + hi) → tb_wp E d 29 38 [.ref t, .int (nI lo), .int (nI hi), .long 0] [] h nx 0 0 Q := by
    intro hn
    have e : ps_t tx le (48 + lo) (48 + hi) (ok, p) = (false, p) := by unfold ps_t; rw [if_neg hn]
    rw [e, if_neg Bool.false_ne_true] at hQ
    simp (disch := first | assumption | omega | exact tb_sm0 | exact tb_sm1 _ | exact tb_sm2 _ _ | exact tb_sm3 _ _ _ | exact tb_sm4 _ _ _ _ | exact Or.inl rfl | exact Or.inr rfl | fail) only [r29_0, r29_1, r29_4, r29_7, r29_8, r29_11, r29_12, r29_15, r29_18, r29_19, r29_22, r29_23, r29_26, r29_27, r29_29, r29_30, r29_31, r29_32, r29_35, r29_38, r29_39, r29_40, r29_43, r29_44, r29_45, r29_46, r29_49, r29_50, r29_53, r29_54, r29_56, r29_57, r29_58, r29_59i, r29_59, r29_60, r29_63, r29_64, r29_65, r29_68, r29_69]
    refine hP.pf (r' := (false, p)) (v' := v) (le' := le) (by decide) rfl (fun h2 hP2 hF2 => ?_)
    try simp (disch := first | assumption | omega | exact tb_sm0 | exact tb_sm1 _ | exact tb_sm2 _ _ | exact tb_sm3 _ _ _ | exact tb_sm4 _ _ _ _ | exact Or.inl rfl | exact Or.inr rfl | fail) only [r29_0, r29_1, r29_4, r29_7, r29_8, r29_11, r29_12, r29_15, r29_18, r29_19, r29_22, r29_23, r29_26, r29_27, r29_29, r29_30, r29_31, r29_32, r29_35, r29_38, r29_39, r29_40, r29_43, r29_44, r29_45, r29_46, r29_49, r29_50, r29_53, r29_54, r29_56, r29_57, r29_58, r29_59i, r29_59, r29_60, r29_63, r29_64, r29_65, r29_68, r29_69]
    exact hQ h2 hP2 hF2
  cases ok with
  | false =>
    have b0 := bad (fun q => by cases q.1)
    have e0 : ps_w false = 1 := rfl
    simp (disch := first | assumption | omega | exact tb_sm0 | exact tb_sm1 _ | exact tb_sm2 _ _ | exact tb_sm3 _ _ _ | exact tb_sm4 _ _ _ _ | exact Or.inl rfl | exact Or.inr rfl | fail) only [r29_0, r29_1, r29_4, r29_7, r29_8, r29_11, r29_12, r29_15, r29_18, r29_19, r29_22, r29_23, r29_26, r29_27, r29_29, r29_30, r29_31, r29_32, r29_35, r29_39, r29_40, r29_43, r29_44, r29_45, r29_46, r29_49, r29_50, r29_53, r29_54, r29_56, r29_57, r29_58, r29_59i, r29_59, r29_60, r29_63, r29_64, r29_65, r29_68, r29_69, g0, e0, tb_vl_some, tb_vl_none, tb_wF_some, nI_add, pk_mul, e_sub, e_div, tb_nmod, e_dec, e_le, e_lt, e_eq, e_eq0, e_lt0, e_0le, e_0lt, e_le0, if_true, if_false, not_true_eq_false, not_false_eq_true, ite_true, ite_false, Nat.reduceAdd, Nat.reduceMul, Nat.reduceLeDiff, Nat.reduceLT, Nat.reduceEqDiff, Nat.reduceSub, ↓reduceIte, Nat.reduceDiv, Nat.reduceMod]
    exact b0
  | true =>
    have e0 : ps_w true = 0 := rfl
    by_cases c1 : p < le
    · have c1' : ¬ le ≤ p := by omega
      have hp60 : p < 60 := by omega
      by_cases c2 : 48 + lo ≤ tx p ∧ tx p ≤ 48 + hi
      · have e : ps_t tx le (48 + lo) (48 + hi) (true, p) = (true, p + 1) := by unfold ps_t; rw [if_pos ⟨rfl, c1, c2.1, c2.2⟩]
        rw [e, if_pos rfl] at hQ
        have c48 : 48 ≤ tx p := by omega
        simp (disch := first | assumption | omega | exact tb_sm0 | exact tb_sm1 _ | exact tb_sm2 _ _ | exact tb_sm3 _ _ _ | exact tb_sm4 _ _ _ _ | exact Or.inl rfl | exact Or.inr rfl | fail) only [r29_0, r29_1, r29_4, r29_7, r29_8, r29_11, r29_12, r29_15, r29_18, r29_19, r29_22, r29_23, r29_26, r29_27, r29_29, r29_30, r29_31, r29_32, r29_35, r29_38, r29_39, r29_40, r29_43, r29_44, r29_45, r29_46, r29_49, r29_50, r29_53, r29_54, r29_56, r29_57, r29_58, r29_59i, r29_59, r29_60, r29_63, r29_64, r29_65, r29_68, r29_69, g0, e0, c1', hP.ld, s_isWithin (show lo ≤ tx p - 48 by omega) (show tx p - 48 ≤ hi by omega) (show hi < 2 ^ 31 by omega), tb_vl_some, tb_vl_none, tb_wF_some, nI_add, pk_mul, e_sub, e_div, tb_nmod, e_dec, e_le, e_lt, e_eq, e_eq0, e_lt0, e_0le, e_0lt, e_le0, if_true, if_false, not_true_eq_false, not_false_eq_true, ite_true, ite_false, Nat.reduceAdd, Nat.reduceMul, Nat.reduceLeDiff, Nat.reduceLT, Nat.reduceEqDiff, Nat.reduceSub, ↓reduceIte, Nat.reduceDiv, Nat.reduceMod]
        refine hP.pf (r' := (true, p + 1)) (v' := v) (le' := le) (by decide) rfl (fun h2 hP2 hF2 => ?_)
        try simp (disch := first | assumption | omega | exact tb_sm0 | exact tb_sm1 _ | exact tb_sm2 _ _ | exact tb_sm3 _ _ _ | exact tb_sm4 _ _ _ _ | exact Or.inl rfl | exact Or.inr rfl | fail) only [r29_0, r29_1, r29_4, r29_7, r29_8, r29_11, r29_12, r29_15, r29_18, r29_19, r29_22, r29_23, r29_26, r29_27, r29_29, r29_30, r29_31, r29_32, r29_35, r29_38, r29_39, r29_40, r29_43, r29_44, r29_45, r29_46, r29_49, r29_50, r29_53, r29_54, r29_56, r29_57, r29_58, r29_59i, r29_59, r29_60, r29_63, r29_64, r29_65, r29_68, r29_69]
        exact hQ h2 hP2 hF2
      · have b0 := bad (fun q => c2 q.2.2)
        by_cases c48 : 48 ≤ tx p
        · have hn : nI (tx p - 48) < nI lo ∨ nI hi < nI (tx p - 48) := by
            rw [nI_ltI (by omega) (by omega), nI_ltI (by omega) (by omega)]; omega
          simp (disch := first | assumption | omega | exact tb_sm0 | exact tb_sm1 _ | exact tb_sm2 _ _ | exact tb_sm3 _ _ _ | exact tb_sm4 _ _ _ _ | exact Or.inl rfl | exact Or.inr rfl | fail) only [r29_0, r29_1, r29_4, r29_7, r29_8, r29_11, r29_12, r29_15, r29_18, r29_19, r29_22, r29_23, r29_26, r29_27, r29_29, r29_30, r29_31, r29_32, r29_35, r29_39, r29_40, r29_43, r29_44, r29_45, r29_46, r29_49, r29_50, r29_53, r29_54, r29_56, r29_57, r29_58, r29_59i, r29_59, r29_60, r29_63, r29_64, r29_65, r29_68, r29_69, g0, e0, c1', hP.ld, s_isWithin_no hn, tb_vl_some, tb_vl_none, tb_wF_some, nI_add, pk_mul, e_sub, e_div, tb_nmod, e_dec, e_le, e_lt, e_eq, e_eq0, e_lt0, e_0le, e_0lt, e_le0, if_true, if_false, not_true_eq_false, not_false_eq_true, ite_true, ite_false, Nat.reduceAdd, Nat.reduceMul, Nat.reduceLeDiff, Nat.reduceLT, Nat.reduceEqDiff, Nat.reduceSub, ↓reduceIte, Nat.reduceDiv, Nat.reduceMod]
          exact b0
        · have hn : nI (tx p) - nI 48 < nI lo ∨ nI hi < nI (tx p) - nI 48 := Or.inl (e_ltn (by omega) (by omega))
          simp (disch := first | assumption | omega | exact tb_sm0 | exact tb_sm1 _ | exact tb_sm2 _ _ | exact tb_sm3 _ _ _ | exact tb_sm4 _ _ _ _ | exact Or.inl rfl | exact Or.inr rfl | fail) only [r29_0, r29_1, r29_4, r29_7, r29_8, r29_11, r29_12, r29_15, r29_18, r29_19, r29_22, r29_23, r29_26, r29_27, r29_29, r29_30, r29_31, r29_32, r29_35, r29_39, r29_40, r29_43, r29_44, r29_45, r29_46, r29_49, r29_50, r29_53, r29_54, r29_56, r29_57, r29_58, r29_59i, r29_59, r29_60, r29_63, r29_64, r29_65, r29_68, r29_69, g0, e0, c1', hP.ld, s_isWithin_no hn, tb_vl_some, tb_vl_none, tb_wF_some, nI_add, pk_mul, e_sub, e_div, tb_nmod, e_dec, e_le, e_lt, e_eq, e_eq0, e_lt0, e_0le, e_0lt, e_le0, if_true, if_false, not_true_eq_false, not_false_eq_true, ite_true, ite_false, Nat.reduceAdd, Nat.reduceMul, Nat.reduceLeDiff, Nat.reduceLT, Nat.reduceEqDiff, Nat.reduceSub, ↓reduceIte, Nat.reduceDiv, Nat.reduceMod]
          exact b0
    · have b0 := bad (fun q => c1 q.2.1)
      have c1' : le ≤ p := by omega
      simp (disch := first | assumption | omega | exact tb_sm0 | exact tb_sm1 _ | exact tb_sm2 _ _ | exact tb_sm3 _ _ _ | exact tb_sm4 _ _ _ _ | exact Or.inl rfl | exact Or.inr rfl | fail) only [r29_0, r29_1, r29_4, r29_7, r29_8, r29_11, r29_12, r29_15, r29_18, r29_19, r29_22, r29_23, r29_26, r29_27, r29_29, r29_30, r29_31, r29_32, r29_35, r29_39, r29_40, r29_43, r29_44, r29_45, r29_46, r29_49, r29_50, r29_53, r29_54, r29_56, r29_57, r29_58, r29_59i, r29_59, r29_60, r29_63, r29_64, r29_65, r29_68, r29_69, g0, e0, c1', tb_vl_some, tb_vl_none, tb_wF_some, nI_add, pk_mul, e_sub, e_div, tb_nmod, e_dec, e_le, e_lt, e_eq, e_eq0, e_lt0, e_0le, e_0lt, e_le0, if_true, if_false, not_true_eq_false, not_false_eq_true, ite_true, ite_false, Nat.reduceAdd, Nat.reduceMul, Nat.reduceLeDiff, Nat.reduceLT, Nat.reduceEqDiff, Nat.reduceSub, ↓reduceIte, Nat.reduceDiv, Nat.reduceMod]
      exact b0
theorem o_canGoOn {w z hi : Nat} (hw : w ≤ 999) (hz : z < 65536) (hhi : hi ≤ 99) (hd : 1 ≤ d) : tb_wp E d 31 0 [.int (nI w), .int (nI z), .int (nI hi), .long 0] [] h nx 0 0 Q = Q (some (.int (nI (if 0 < w ∧ 48 ≤ z ∧ z ≤ 57 ∧ w * 10 + (z - 48) ≤ hi then 1 else 0)))) h nx := by
  by_cases c0 : w = 0
  · rw [if_neg (fun q => by omega)]
    by_cases c48 : 48 ≤ z
    · simp (disch := first | assumption | omega | exact tb_sm0 | exact tb_sm1 _ | exact tb_sm2 _ _ | exact tb_sm3 _ _ _ | exact tb_sm4 _ _ _ _ | exact Or.inl rfl | exact Or.inr rfl | fail) only [r31_0, r31_1, r31_3, r31_4, r31_5, r31_6, r31_9, r31_10, r31_11, r31_13, r31_16, r31_19, r31_20, r31_22, r31_23, r31_24, r31_25, r31_26, r31_29, r31_30, r31_33, r31_34, c0, tb_vl_some, tb_vl_none, tb_wF_some, nI_add, pk_mul, e_sub, e_div, tb_nmod, e_dec, e_le, e_lt, e_eq, e_eq0, e_lt0, e_0le, e_0lt, e_le0, if_true, if_false, not_true_eq_false, not_false_eq_true, ite_true, ite_false, Nat.reduceAdd, Nat.reduceMul, Nat.reduceLeDiff, Nat.reduceLT, Nat.reduceEqDiff, Nat.reduceSub, ↓reduceIte, Nat.reduceDiv, Nat.reduceMod]
    · simp (disch := first | assumption | omega | exact tb_sm0 | exact tb_sm1 _ | exact tb_sm2 _ _ | exact tb_sm3 _ _ _ | exact tb_sm4 _ _ _ _ | exact Or.inl rfl | exact Or.inr rfl | fail) only [r31_0, r31_1, r31_3, r31_4, r31_5, r31_6, r31_9, r31_10, r31_11, r31_13, r31_16, r31_19, r31_20, r31_22, r31_23, r31_24, r31_25, r31_26, r31_29, r31_30, r31_33, r31_34, c0, tb_vl_some, tb_vl_none, tb_wF_some, nI_add, pk_mul, e_sub, e_div, tb_nmod, e_dec, e_le, e_lt, e_eq, e_eq0, e_lt0, e_0le, e_0lt, e_le0, if_true, if_false, not_true_eq_false, not_false_eq_true, ite_true, ite_false, Nat.reduceAdd, Nat.reduceMul, Nat.reduceLeDiff, Nat.reduceLT, Nat.reduceEqDiff, Nat.reduceSub, ↓reduceIte, Nat.reduceDiv, Nat.reduceMod]
  · by_cases c48 : 48 ≤ z
    · by_cases c57 : z ≤ 57
      · have w9 := fun {Q' : Option Value → tb_heap → Nat → Prop} => s_isWithin (E := E) (d := d - 1) (h := h) (nx := nx) (Q := Q') (Nat.zero_le (z - 48)) (show z - 48 ≤ 9 by omega) (show 9 < 2 ^ 31 by decide)
        by_cases c3 : hi < w * 10 + (z - 48)
        · rw [if_neg (fun q => by omega)]
          simp (disch := first | assumption | omega | exact tb_sm0 | exact tb_sm1 _ | exact tb_sm2 _ _ | exact tb_sm3 _ _ _ | exact tb_sm4 _ _ _ _ | exact Or.inl rfl | exact Or.inr rfl | fail) only [r31_0, r31_1, r31_3, r31_4, r31_5, r31_6, r31_9, r31_10, r31_11, r31_13, r31_16, r31_19, r31_20, r31_22, r31_23, r31_24, r31_25, r31_26, r31_29, r31_30, r31_33, r31_34, c0, w9, c3, tb_vl_some, tb_vl_none, tb_wF_some, nI_add, pk_mul, e_sub, e_div, tb_nmod, e_dec, e_le, e_lt, e_eq, e_eq0, e_lt0, e_0le, e_0lt, e_le0, if_true, if_false, not_true_eq_false, not_false_eq_true, ite_true, ite_false, Nat.reduceAdd, Nat.reduceMul, Nat.reduceLeDiff, Nat.reduceLT, Nat.reduceEqDiff, Nat.reduceSub, ↓reduceIte, Nat.reduceDiv, Nat.reduceMod]
        · rw [if_pos ⟨by omega, c48, c57, by omega⟩]
          simp (disch := first | assumption | omega | exact tb_sm0 | exact tb_sm1 _ | exact tb_sm2 _ _ | exact tb_sm3 _ _ _ | exact tb_sm4 _ _ _ _ | exact Or.inl rfl | exact Or.inr rfl | fail) only [r31_0, r31_1, r31_3, r31_4, r31_5, r31_6, r31_9, r31_10, r31_11, r31_13, r31_16, r31_19, r31_20, r31_22, r31_23, r31_24, r31_25, r31_26, r31_29, r31_30, r31_33, r31_34, c0, w9, c3, tb_vl_some, tb_vl_none, tb_wF_some, nI_add, pk_mul, e_sub, e_div, tb_nmod, e_dec, e_le, e_lt, e_eq, e_eq0, e_lt0, e_0le, e_0lt, e_le0, if_true, if_false, not_true_eq_false, not_false_eq_true, ite_true, ite_false, Nat.reduceAdd, Nat.reduceMul, Nat.reduceLeDiff, Nat.reduceLT, Nat.reduceEqDiff, Nat.reduceSub, ↓reduceIte, Nat.reduceDiv, Nat.reduceMod]
      · have hn : nI (z - 48) < nI 0 ∨ nI 9 < nI (z - 48) := by
          rw [nI_ltI (by omega) (by omega), nI_ltI (by omega) (by omega)]; omega
        rw [if_neg (fun q => c57 q.2.2.1)]
        simp (disch := first | assumption | omega | exact tb_sm0 | exact tb_sm1 _ | exact tb_sm2 _ _ | exact tb_sm3 _ _ _ | exact tb_sm4 _ _ _ _ | exact Or.inl rfl | exact Or.inr rfl | fail) only [r31_0, r31_1, r31_3, r31_4, r31_5, r31_6, r31_9, r31_10, r31_11, r31_13, r31_16, r31_19, r31_20, r31_22, r31_23, r31_24, r31_25, r31_26, r31_29, r31_30, r31_33, r31_34, c0, s_isWithin_no hn, tb_vl_some, tb_vl_none, tb_wF_some, nI_add, pk_mul, e_sub, e_div, tb_nmod, e_dec, e_le, e_lt, e_eq, e_eq0, e_lt0, e_0le, e_0lt, e_le0, if_true, if_false, not_true_eq_false, not_false_eq_true, ite_true, ite_false, Nat.reduceAdd, Nat.reduceMul, Nat.reduceLeDiff, Nat.reduceLT, Nat.reduceEqDiff, Nat.reduceSub, ↓reduceIte, Nat.reduceDiv, Nat.reduceMod]
    · have hn : nI z - nI 48 < nI 0 ∨ nI 9 < nI z - nI 48 := Or.inl (e_ltn (by omega) (by omega))
      rw [if_neg (fun q => c48 q.2.1)]
      simp (disch := first | assumption | omega | exact tb_sm0 | exact tb_sm1 _ | exact tb_sm2 _ _ | exact tb_sm3 _ _ _ | exact tb_sm4 _ _ _ _ | exact Or.inl rfl | exact Or.inr rfl | fail) only [r31_0, r31_1, r31_3, r31_4, r31_5, r31_6, r31_9, r31_10, r31_11, r31_13, r31_16, r31_19, r31_20, r31_22, r31_23, r31_24, r31_25, r31_26, r31_29, r31_30, r31_33, r31_34, c0, s_isWithin_no hn, tb_vl_some, tb_vl_none, tb_wF_some, nI_add, pk_mul, e_sub, e_div, tb_nmod, e_dec, e_le, e_lt, e_eq, e_eq0, e_lt0, e_0le, e_0lt, e_le0, if_true, if_false, not_true_eq_false, not_false_eq_true, ite_true, ite_false, Nat.reduceAdd, Nat.reduceMul, Nat.reduceLeDiff, Nat.reduceLT, Nat.reduceEqDiff, Nat.reduceSub, ↓reduceIte, Nat.reduceDiv, Nat.reduceMod]
theorem o_num_stop {lo hi w : Nat} {r : Bool × Nat} (hP : tb_OP h t tx le r v) (hT : ∀ j, tx j < 65536) (h60 : le ≤ 60) (hw : w ≤ 999) (hhi : hi ≤ 99) (hd : 2 ≤ d) (hn : ¬ (r.2 < le ∧ 0 < w ∧ 48 ≤ tx r.2 ∧ tx r.2 ≤ 57 ∧ w * 10 + (tx r.2 - 48) ≤ hi)) (hr : r.2 ≤ 60) (hQ : Q (some (.int (nI w))) h nx) :
    tb_wp E d 30 8 [.ref t, .int (nI lo), .int (nI hi), .int (nI w)] [] h nx 0 0 Q := by
  have g0 := hP.g
  have hTq := hT r.2
  have ld0 := fun {j : Nat} (hj : j < 60) {K : Int32 → Prop} => hP.ld (E := E) hj (K := K)
  by_cases c1 : r.2 < le
  · have c1' : ¬ le ≤ r.2 := by omega
    have hp60 : r.2 < 60 := by omega
    have cg : ∀ {Q' : Option Value → tb_heap → Nat → Prop}, tb_wp E (d - 1) 31 0 [.int (nI w), .int (nI (tx r.2)), .int (nI hi), .long 0] [] h nx 0 0 Q' = Q' (some (.int (nI 0))) h nx := by
      intro Q'
      rw [o_canGoOn hw hTq hhi (by omega), if_neg (fun k => hn ⟨c1, k⟩)]
    simp (disch := first | assumption | omega | exact tb_sm0 | exact tb_sm1 _ | exact tb_sm2 _ _ | exact tb_sm3 _ _ _ | exact tb_sm4 _ _ _ _ | exact Or.inl rfl | exact Or.inr rfl | fail) only [r30_0, r30_1, r30_2, r30_4, r30_7, r30_8, r30_9, r30_12, r30_13, r30_16, r30_19, r30_20, r30_21, r30_24, r30_25, r30_28, r30_29, r30_30, r30_33, r30_36, r30_37, r30_39, r30_40, r30_41, r30_44, r30_45, r30_48, r30_49, r30_51, r30_52, r30_53, r30_54, r30_55i, r30_55, r30_56, r30_59, r30_60, r30_61, r30_64, r30_67, r30_68, g0, c1', ld0, cg, tb_vl_some, tb_vl_none, tb_wF_some, nI_add, pk_mul, e_sub, e_div, tb_nmod, e_dec, e_le, e_lt, e_eq, e_eq0, e_lt0, e_0le, e_0lt, e_le0, if_true, if_false, not_true_eq_false, not_false_eq_true, ite_true, ite_false, Nat.reduceAdd, Nat.reduceMul, Nat.reduceLeDiff, Nat.reduceLT, Nat.reduceEqDiff, Nat.reduceSub, ↓reduceIte, Nat.reduceDiv, Nat.reduceMod]
    exact hQ
  · have c1' : le ≤ r.2 := by omega
    simp (disch := first | assumption | omega | exact tb_sm0 | exact tb_sm1 _ | exact tb_sm2 _ _ | exact tb_sm3 _ _ _ | exact tb_sm4 _ _ _ _ | exact Or.inl rfl | exact Or.inr rfl | fail) only [r30_0, r30_1, r30_2, r30_4, r30_7, r30_8, r30_9, r30_12, r30_13, r30_16, r30_19, r30_20, r30_21, r30_24, r30_25, r30_28, r30_29, r30_30, r30_33, r30_36, r30_37, r30_39, r30_40, r30_41, r30_44, r30_45, r30_48, r30_49, r30_51, r30_52, r30_53, r30_54, r30_55i, r30_55, r30_56, r30_59, r30_60, r30_61, r30_64, r30_67, r30_68, g0, c1', tb_vl_some, tb_vl_none, tb_wF_some, nI_add, pk_mul, e_sub, e_div, tb_nmod, e_dec, e_le, e_lt, e_eq, e_eq0, e_lt0, e_0le, e_0lt, e_le0, if_true, if_false, not_true_eq_false, not_false_eq_true, ite_true, ite_false, Nat.reduceAdd, Nat.reduceMul, Nat.reduceLeDiff, Nat.reduceLT, Nat.reduceEqDiff, Nat.reduceSub, ↓reduceIte, Nat.reduceDiv, Nat.reduceMod]
    exact hQ
theorem o_num_go {lo hi w p : Nat} (hP : tb_OP h t tx le (true, p) v) (hT : ∀ j, tx j < 65536) (h60 : le ≤ 60) (hw : w ≤ 999) (hhi : hi ≤ 99) (hd : 2 ≤ d) (hn : p < le ∧ 0 < w ∧ 48 ≤ tx p ∧ tx p ≤ 57 ∧ w * 10 + (tx p - 48) ≤ hi) (hQ : ∀ h', tb_OP h' t tx le (true, p + 1) v → (∀ q, q ≠ t → h' q = h q) → tb_wp E d 30 8 [.ref t, .int (nI lo), .int (nI hi), .int (nI (w * 10 + (tx p - 48)))] [] h' nx 0 0 Q) :
    tb_wp E d 30 8 [.ref t, .int (nI lo), .int (nI hi), .int (nI w)] [] h nx 0 0 Q := by
  have g0 := hP.g
  dsimp only at g0
  have hTq := hT p
  have ld0 := fun {j : Nat} (hj : j < 60) {K : Int32 → Prop} => hP.ld (E := E) hj (K := K)
  have c1' : ¬ le ≤ p := by omega
  have hp60 : p < 60 := by omega
  have c48 : 48 ≤ tx p := hn.2.2.1
  have cg : ∀ {Q' : Option Value → tb_heap → Nat → Prop}, tb_wp E (d - 1) 31 0 [.int (nI w), .int (nI (tx p)), .int (nI hi), .long 0] [] h nx 0 0 Q' = Q' (some (.int (nI 1))) h nx := by
    intro Q'
    rw [o_canGoOn hw hTq hhi (by omega), if_pos hn.2]
  simp (disch := first | assumption | omega | exact tb_sm0 | exact tb_sm1 _ | exact tb_sm2 _ _ | exact tb_sm3 _ _ _ | exact tb_sm4 _ _ _ _ | exact Or.inl rfl | exact Or.inr rfl | fail) only [r30_8, r30_9, r30_12, r30_13, r30_16, g0, c1', tb_vl_some, tb_vl_none, tb_wF_some, nI_add, pk_mul, e_sub, e_div, tb_nmod, e_dec, e_le, e_lt, e_eq, e_eq0, e_lt0, e_0le, e_0lt, e_le0, if_true, if_false, not_true_eq_false, not_false_eq_true, ite_true, ite_false, Nat.reduceAdd, Nat.reduceMul, Nat.reduceLeDiff, Nat.reduceLT, Nat.reduceEqDiff, Nat.reduceSub, ↓reduceIte, Nat.reduceDiv, Nat.reduceMod]
  simp (disch := first | assumption | omega | exact tb_sm0 | exact tb_sm1 _ | exact tb_sm2 _ _ | exact tb_sm3 _ _ _ | exact tb_sm4 _ _ _ _ | exact Or.inl rfl | exact Or.inr rfl | fail) only [r30_0, r30_1, r30_2, r30_4, r30_7, r30_9, r30_12, r30_13, r30_16, r30_19, r30_20, r30_21, r30_24, r30_25, r30_28, r30_29, r30_30, r30_33, r30_36, r30_37, r30_39, r30_40, r30_41, r30_44, r30_45, r30_48, r30_49, r30_51, r30_52, r30_53, r30_54, r30_55i, r30_55, r30_56, r30_59, r30_60, r30_61, r30_64, r30_67, r30_68, g0, ld0, cg, tb_vl_some, tb_vl_none, tb_wF_some, nI_add, pk_mul, e_sub, e_div, tb_nmod, e_dec, e_le, e_lt, e_eq, e_eq0, e_lt0, e_0le, e_0lt, e_le0, if_true, if_false, not_true_eq_false, not_false_eq_true, ite_true, ite_false, Nat.reduceAdd, Nat.reduceMul, Nat.reduceLeDiff, Nat.reduceLT, Nat.reduceEqDiff, Nat.reduceSub, ↓reduceIte, Nat.reduceDiv, Nat.reduceMod]
  refine hP.pf (r' := (true, p + 1)) (v' := v) (le' := le) (by decide) rfl (fun h2 hP2 hF2 => ?_)
  try simp (disch := first | assumption | omega | exact tb_sm0 | exact tb_sm1 _ | exact tb_sm2 _ _ | exact tb_sm3 _ _ _ | exact tb_sm4 _ _ _ _ | exact Or.inl rfl | exact Or.inr rfl | fail) only [r30_64, nI_add, pk_mul, e_sub, e_div, tb_nmod, e_dec, e_le, e_lt, e_eq, e_eq0, e_lt0, e_0le, e_0lt, e_le0, if_true, if_false, not_true_eq_false, not_false_eq_true, ite_true, ite_false, Nat.reduceAdd, Nat.reduceMul, Nat.reduceLeDiff, Nat.reduceLT, Nat.reduceEqDiff, Nat.reduceSub, ↓reduceIte, Nat.reduceDiv, Nat.reduceMod]
  exact hQ h2 hP2 hF2
theorem o_readNumber {lo hi : Nat} {r : Bool × Nat} (hP : tb_OP h t tx le r v) (hT : ∀ j, tx j < 65536) (h60 : le ≤ 60) (hlo : lo ≤ 1) (hhi : hi ≤ 99) (hr : r.2 ≤ 60) (hd : 2 ≤ d) (hQ : ∀ h', tb_OP h' t tx le (ps_num tx le lo hi r) v → (∀ q, q ≠ t → h' q = h q) → Q (some (.int (nI (if (ps_num tx le lo hi r).1 = true then ps_val tx le hi r.2 else 0)))) h' nx) :
    tb_wp E d 30 0 [.ref t, .int (nI lo), .int (nI hi), .long 0] [] h nx 0 0 Q := by
  have hO := hP.O
  simp (disch := first | assumption | omega | exact tb_sm0 | exact tb_sm1 _ | exact tb_sm2 _ _ | exact tb_sm3 _ _ _ | exact tb_sm4 _ _ _ _ | exact Or.inl rfl | exact Or.inr rfl | fail) only [r30_0, r30_1, r30_2, r30_4]
  refine o_readDigit hP hT h60 (by omega) (by decide) hr (by omega) (fun h2 hP2 hF2 => ?_)
  simp (disch := first | assumption | omega | exact tb_sm0 | exact tb_sm1 _ | exact tb_sm2 _ _ | exact tb_sm3 _ _ _ | exact tb_sm4 _ _ _ _ | exact Or.inl rfl | exact Or.inr rfl | fail) only [r30_7, tb_vl_some, tb_vl_none, tb_wF_some, Nat.reduceAdd]
  simp only [Nat.reduceAdd] at hP2
  by_cases c : (ps_t tx le (48 + lo) 57 r).1 = true
  · obtain ⟨k1, k2, k3, k4, k5⟩ := ps_t_ok c
    have eM : ps_t tx le (48 + lo) 57 r = (true, r.2 + 1) := Prod.ext c k5
    rw [if_pos c]
    rw [eM] at hP2
    generalize hp : r.2 = p at *
    have en : ps_num tx le lo hi r = if ps_two tx le hi p then (true, p + 2) else (true, p + 1) := by
      unfold ps_num
      rw [eM, hp]
      by_cases c5 : ps_two tx le hi p
      · rw [if_pos ⟨rfl, c5⟩, if_pos c5]
      · rw [if_neg (fun q => c5 q.2), if_neg c5]
    have hok : (ps_num tx le lo hi r).1 = true := by rw [en]; split <;> rfl
    rw [if_pos hok] at hQ
    by_cases c5 : ps_two tx le hi p
    · obtain ⟨q1, q2, q3, q4, q5⟩ := id c5
      refine o_num_go hP2 hT h60 (by omega) hhi hd ⟨q2, by omega, q3, q4, by omega⟩ (fun h3 hP3 hF3 => ?_)
      refine o_num_stop hP3 hT h60 (by omega) hhi hd (fun k => by have := k.2.2.2.2; dsimp only at this; omega) (by show p + 1 + 1 ≤ 60; omega) ?_
      have ev : (tx p - 48) * 10 + (tx (p + 1) - 48) = ps_val tx le hi p := by unfold ps_val; rw [if_pos c5, Nat.mul_comm]
      rw [ev]
      rw [en, if_pos c5] at hQ
      exact hQ h3 hP3 (fun q hq => by rw [hF3 q hq, hF2 q hq])
    · refine o_num_stop hP2 hT h60 (by omega) hhi hd (fun k => c5 ?_) (by show p + 1 ≤ 60; omega) ?_
      · dsimp only at k
        obtain ⟨q2, q1, q3, q4, q5⟩ := k
        exact ⟨by omega, q2, q3, q4, by omega⟩
      · have ev : tx p - 48 = ps_val tx le hi p := by unfold ps_val; rw [if_neg c5]
        rw [ev]
        rw [en, if_neg c5] at hQ
        exact hQ h2 hP2 hF2
  · have eM : ps_t tx le (48 + lo) 57 r = (false, r.2) := by
      unfold ps_t at c ⊢
      by_cases c9 : r.1 = true ∧ r.2 < le ∧ 48 + lo ≤ tx r.2 ∧ tx r.2 ≤ 57
      · rw [if_pos c9] at c; exact absurd rfl c
      · rw [if_neg c9]
    have en : ps_num tx le lo hi r = (false, r.2) := by
      unfold ps_num
      rw [if_neg (fun q => c q.1), eM]
    rw [if_neg c]
    rw [eM] at hP2
    rw [en, if_neg Bool.false_ne_true] at hQ
    exact o_num_stop hP2 hT h60 (by omega) hhi hd (fun k => absurd k.2.1 (by decide)) hr (hQ h2 hP2 hF2)
end O1
