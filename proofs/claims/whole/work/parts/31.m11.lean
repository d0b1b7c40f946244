/-! THE REFERENCE: numbers and orders in texts -/
section M11
variable {E : tb_env} {d : Nat} {h : tb_heap} {nx : Nat} {Q : Option Value → tb_heap → Nat → Prop} {m : Nat} {s : Nat → Nat} {kn : Int32} {g : sp_G} {sp : Int32} {as ah cm od : Nat → Int32} {bf : Nat → Nat}
theorem m_takesNumber {lo hi : Nat} {r : Bool × Nat} (hM : tb_MP h m s kn g r sp as ah cm od bf) (hT : ∀ j, g.2.2.1 j < 65536) (h60 : g.2.2.2.1 ≤ 60) (hr : r.2 ≤ 60) (hlo : lo ≤ 1) (hhi : hi ≤ 99) (hd : 2 ≤ d) (hQ : ∀ h' v, tb_MP h' m s kn g (ps_num g.2.2.1 g.2.2.2.1 lo hi r) sp as ah cm od bf → (∀ q, q ≠ m → h' q = h q) → ((ps_num g.2.2.1 g.2.2.2.1 lo hi r).1 = true → v = nI (ps_val g.2.2.1 g.2.2.2.1 hi r.2)) → Q (some (.int v)) h' nx) :
    tb_wp E d 131 0 [.ref m, .int (nI lo), .int (nI hi), .long 0, .long 0] [] h nx 0 0 Q := by
  have hO := hM.1.O
  simp (disch := first | assumption | omega | exact tb_sm0 | exact tb_sm1 _ | exact tb_sm2 _ _ | exact tb_sm3 _ _ _ | exact tb_sm4 _ _ _ _ | exact Or.inl rfl | exact Or.inr rfl | fail) only [r131_0, r131_1, r131_2, r131_4, r131_5, r131_6, r131_8, r131_12, r131_13, r131_14, r131_17, r131_18, r131_21, r131_22, r131_24, r131_26, r131_29, r131_30, r131_32, r131_34, r131_37, r131_40, r131_42, r131_43, r131_44, r131_45, r131_48, r131_49, r131_52, r131_53, r131_54, r131_56, r131_57, r131_58, r131_61, r131_62, r131_65, r131_66, r131_68, r131_70, r131_73, r131_75, r131_76, r131_77, r131_78, r131_80, r131_82, r131_85, r131_86, r131_89, r131_90, r131_91, r131_94, r131_95, nI_add, pk_mul, e_sub, e_div, tb_nmod, e_dec, e_le, e_lt, e_eq, e_eq0, e_lt0, e_0le, e_0lt, e_le0, if_true, if_false, not_true_eq_false, not_false_eq_true, ite_true, ite_false, Nat.reduceAdd, Nat.reduceMul, Nat.reduceLeDiff, Nat.reduceLT, Nat.reduceEqDiff, Nat.reduceSub, ↓reduceIte, Nat.reduceDiv, Nat.reduceMod]
  refine m_takes hM hT h60 (by omega) (by omega) (by decide) (by omega) (by omega) (fun h2 v hM2 hF2 hv => ?_)
  simp only [Nat.reduceSub, Nat.reduceAdd, tb_vl_some]
  have hO2 := hM2.1.O
  by_cases c : (ps_t g.2.2.1 g.2.2.2.1 (48 + lo) 57 r).1 = true
  · obtain ⟨k1, k2, k3, k4, k5⟩ := ps_t_ok c
    have ev := hv c
    subst ev
    have eM : ps_t g.2.2.1 g.2.2.2.1 (48 + lo) 57 r = (true, r.2 + 1) := Prod.ext c k5
    rw [eM] at hM2
    generalize hp : r.2 = p at *
    simp (disch := first | assumption | omega | exact tb_sm0 | exact tb_sm1 _ | exact tb_sm2 _ _ | exact tb_sm3 _ _ _ | exact tb_sm4 _ _ _ _ | exact Or.inl rfl | exact Or.inr rfl | fail) only [r131_11, r131_12, nI_add]
    have e1 : lo + (g.2.2.1 p - (48 + lo)) = g.2.2.1 p - 48 := by omega
    rw [e1]
    have fin : ∀ (h' : tb_heap) (w y : Nat) (r' : Bool × Nat), tb_MP h' m s kn g r' sp as ah cm od bf → (∀ q, q ≠ m → h' q = h q) → r' = ps_num g.2.2.1 g.2.2.2.1 lo hi r → w = ps_val g.2.2.1 g.2.2.2.1 hi p → tb_wp E d 131 24 [.ref m, .int (nI lo), .int (nI hi), .int (nI w), .int (nI 0)] [] h' nx 0 0 Q := by
      rintro h' w y r' hM' hF' rfl rfl
      simp (disch := first | assumption | omega | exact tb_sm0 | exact tb_sm1 _ | exact tb_sm2 _ _ | exact tb_sm3 _ _ _ | exact tb_sm4 _ _ _ _ | exact Or.inl rfl | exact Or.inr rfl | fail) only [r131_0, r131_1, r131_2, r131_4, r131_5, r131_6, r131_8, r131_11, r131_12, r131_13, r131_14, r131_17, r131_18, r131_21, r131_22, r131_24, r131_26, r131_29, r131_30, r131_32, r131_34, r131_37, r131_40, r131_42, r131_43, r131_44, r131_45, r131_48, r131_49, r131_52, r131_53, r131_54, r131_56, r131_57, r131_58, r131_61, r131_62, r131_65, r131_66, r131_68, r131_70, r131_73, r131_75, r131_76, r131_77, r131_78, r131_80, r131_82, r131_85, r131_86, r131_89, r131_90, r131_91, r131_94, r131_95, nI_add, pk_mul, e_sub, e_div, tb_nmod, e_dec, e_le, e_lt, e_eq, e_eq0, e_lt0, e_0le, e_0lt, e_le0, if_true, if_false, not_true_eq_false, not_false_eq_true, ite_true, ite_false, Nat.reduceAdd, Nat.reduceMul, Nat.reduceLeDiff, Nat.reduceLT, Nat.reduceEqDiff, Nat.reduceSub, ↓reduceIte, Nat.reduceDiv, Nat.reduceMod]
      exact hQ h' _ hM' hF' (fun _ => rfl)
    have en : ps_num g.2.2.1 g.2.2.2.1 lo hi r = if ps_two g.2.2.1 g.2.2.2.1 hi p then (true, p + 2) else (true, p + 1) := by
      unfold ps_num
      rw [eM, hp]
      by_cases c5 : ps_two g.2.2.1 g.2.2.2.1 hi p
      · rw [if_pos ⟨rfl, c5⟩, if_pos c5]
      · rw [if_neg (fun q => c5 q.2), if_neg c5]
    by_cases c0 : g.2.2.1 p - 48 = 0
    · have hn2 : ¬ ps_two g.2.2.1 g.2.2.2.1 hi p := fun q => by have := q.1; omega
      simp (disch := first | assumption | omega | exact tb_sm0 | exact tb_sm1 _ | exact tb_sm2 _ _ | exact tb_sm3 _ _ _ | exact tb_sm4 _ _ _ _ | exact Or.inl rfl | exact Or.inr rfl | fail) only [r131_0, r131_1, r131_2, r131_4, r131_5, r131_6, r131_8, r131_11, r131_12, r131_13, r131_14, r131_17, r131_18, r131_21, r131_22, r131_26, r131_29, r131_30, r131_32, r131_34, r131_37, r131_40, r131_42, r131_43, r131_44, r131_45, r131_48, r131_49, r131_52, r131_53, r131_54, r131_56, r131_57, r131_58, r131_61, r131_62, r131_65, r131_66, r131_68, r131_70, r131_73, r131_75, r131_76, r131_77, r131_78, r131_80, r131_82, r131_85, r131_86, r131_89, r131_90, r131_91, r131_94, r131_95, c0, nI_add, pk_mul, e_sub, e_div, tb_nmod, e_dec, e_le, e_lt, e_eq, e_eq0, e_lt0, e_0le, e_0lt, e_le0, if_true, if_false, not_true_eq_false, not_false_eq_true, ite_true, ite_false, Nat.reduceAdd, Nat.reduceMul, Nat.reduceLeDiff, Nat.reduceLT, Nat.reduceEqDiff, Nat.reduceSub, ↓reduceIte, Nat.reduceDiv, Nat.reduceMod]
      refine fin h2 0 0 _ hM2 hF2 ?_ ?_
      · rw [en, if_neg hn2]
      · unfold ps_val; rw [if_neg hn2, c0]
    · have hT1 := hT (p + 1)
      simp (disch := first | assumption | omega | exact tb_sm0 | exact tb_sm1 _ | exact tb_sm2 _ _ | exact tb_sm3 _ _ _ | exact tb_sm4 _ _ _ _ | exact Or.inl rfl | exact Or.inr rfl | fail) only [r131_0, r131_1, r131_2, r131_4, r131_5, r131_6, r131_8, r131_11, r131_12, r131_13, r131_14, r131_17, r131_18, r131_21, r131_22, r131_26, r131_29, r131_30, r131_32, r131_34, r131_37, r131_40, r131_42, r131_43, r131_44, r131_45, r131_48, r131_49, r131_52, r131_53, r131_54, r131_56, r131_57, r131_58, r131_61, r131_62, r131_65, r131_66, r131_68, r131_70, r131_73, r131_75, r131_76, r131_77, r131_78, r131_80, r131_82, r131_85, r131_86, r131_89, r131_90, r131_91, r131_94, r131_95, c0, nI_add, pk_mul, e_sub, e_div, tb_nmod, e_dec, e_le, e_lt, e_eq, e_eq0, e_lt0, e_0le, e_0lt, e_le0, if_true, if_false, not_true_eq_false, not_false_eq_true, ite_true, ite_false, Nat.reduceAdd, Nat.reduceMul, Nat.reduceLeDiff, Nat.reduceLT, Nat.reduceEqDiff, Nat.reduceSub, ↓reduceIte, Nat.reduceDiv, Nat.reduceMod]
      simp (disch := first | assumption | omega | exact tb_sm0 | exact tb_sm1 _ | exact tb_sm2 _ _ | exact tb_sm3 _ _ _ | exact tb_sm4 _ _ _ _ | exact Or.inl rfl | exact Or.inr rfl | fail) only [r131_24, r131_26, nI_add, pk_mul, e_sub, e_div, tb_nmod, e_dec, e_le, e_lt, e_eq, e_eq0, e_lt0, e_0le, e_0lt, e_le0, if_true, if_false, not_true_eq_false, not_false_eq_true, ite_true, ite_false, Nat.reduceAdd, Nat.reduceMul, Nat.reduceLeDiff, Nat.reduceLT, Nat.reduceEqDiff, Nat.reduceSub, ↓reduceIte, Nat.reduceDiv, Nat.reduceMod]
      have nx2 := fun {Q'} => m_isNext (E := E) (d := d - 1) (nx := nx) (Q := Q') hM2 hT h60 (show p + 1 ≤ 60 by omega) (show 57 < 1000 by decide) (show 48 < 1000 by decide) (show 1 ≤ d - 1 by omega)
      have tx : ∀ {j : Nat} (hj : j < 60) {K : Int32 → Prop}, tb_wF (tb_ld E h2 0 (m + 6) (nI j)) K = K (nI (g.2.2.1 j)) := fun hj => hM2.2.2.2.2.2.2.1.ld hj (by decide)
      have g2 := hM2.1.g
      dsimp only at g2
      have no : ¬ ps_two g.2.2.1 g.2.2.2.1 hi p → tb_wp E d 131 24 [.ref m, .int (nI lo), .int (nI hi), .int (nI (g.2.2.1 p - 48)), .int (nI 0)] [] h2 nx 0 0 Q := by
        intro hn2
        refine fin h2 _ 0 _ hM2 hF2 ?_ ?_
        · rw [en, if_neg hn2]
        · unfold ps_val; rw [if_neg hn2]
      by_cases c1 : p + 1 < g.2.2.2.1 ∧ 48 ≤ g.2.2.1 (p + 1) ∧ g.2.2.1 (p + 1) ≤ 57
      · rw [if_pos c1] at nx2
        have hp60 : p + 1 < 60 := by omega
        obtain ⟨c11, c12, c13⟩ := c1
        by_cases c3 : hi < 10 * (g.2.2.1 p - 48) + g.2.2.1 (p + 1) - 48
        · have := no (fun q => by have := q.2.2.2.2; omega)
          simp (disch := first | assumption | omega | exact tb_sm0 | exact tb_sm1 _ | exact tb_sm2 _ _ | exact tb_sm3 _ _ _ | exact tb_sm4 _ _ _ _ | exact Or.inl rfl | exact Or.inr rfl | fail) only [r131_0, r131_1, r131_2, r131_4, r131_5, r131_6, r131_8, r131_11, r131_12, r131_13, r131_14, r131_17, r131_18, r131_21, r131_22, r131_26, r131_29, r131_30, r131_32, r131_34, r131_37, r131_40, r131_42, r131_43, r131_44, r131_45, r131_48, r131_49, r131_52, r131_53, r131_54, r131_56, r131_57, r131_58, r131_61, r131_62, r131_65, r131_66, r131_68, r131_70, r131_73, r131_75, r131_76, r131_77, r131_78, r131_80, r131_82, r131_85, r131_86, r131_89, r131_90, r131_91, r131_94, r131_95, nx2, g2, tx hp60, c3, tb_vl_some, tb_vl_none, tb_wF_some, nI_add, pk_mul, e_sub, e_div, tb_nmod, e_dec, e_le, e_lt, e_eq, e_eq0, e_lt0, e_0le, e_0lt, e_le0, if_true, if_false, not_true_eq_false, not_false_eq_true, ite_true, ite_false, Nat.reduceAdd, Nat.reduceMul, Nat.reduceLeDiff, Nat.reduceLT, Nat.reduceEqDiff, Nat.reduceSub, ↓reduceIte, Nat.reduceDiv, Nat.reduceMod]
          exact this
        · simp (disch := first | assumption | omega | exact tb_sm0 | exact tb_sm1 _ | exact tb_sm2 _ _ | exact tb_sm3 _ _ _ | exact tb_sm4 _ _ _ _ | exact Or.inl rfl | exact Or.inr rfl | fail) only [r131_0, r131_1, r131_2, r131_4, r131_5, r131_6, r131_8, r131_11, r131_12, r131_13, r131_14, r131_17, r131_18, r131_21, r131_22, r131_26, r131_29, r131_30, r131_32, r131_34, r131_37, r131_40, r131_42, r131_43, r131_44, r131_45, r131_48, r131_49, r131_52, r131_53, r131_54, r131_56, r131_57, r131_58, r131_61, r131_62, r131_65, r131_66, r131_68, r131_70, r131_73, r131_75, r131_76, r131_77, r131_78, r131_80, r131_82, r131_85, r131_86, r131_90, r131_91, r131_94, r131_95, nx2, g2, tx hp60, c3, tb_vl_some, tb_vl_none, tb_wF_some, nI_add, pk_mul, e_sub, e_div, tb_nmod, e_dec, e_le, e_lt, e_eq, e_eq0, e_lt0, e_0le, e_0lt, e_le0, if_true, if_false, not_true_eq_false, not_false_eq_true, ite_true, ite_false, Nat.reduceAdd, Nat.reduceMul, Nat.reduceLeDiff, Nat.reduceLT, Nat.reduceEqDiff, Nat.reduceSub, ↓reduceIte, Nat.reduceDiv, Nat.reduceMod]
          have c5 : ps_two g.2.2.1 g.2.2.2.1 hi p := ⟨by omega, c11, c12, c13, by omega⟩
          refine m_takes hM2 hT h60 (by dsimp only; omega) (by decide) (by decide) (by decide) (by omega) (fun h3 v3 hM3 hF3 hv3 => ?_)
          have eM3 : ps_t g.2.2.1 g.2.2.2.1 48 57 (true, p + 1) = (true, p + 2) := by
            unfold ps_t; rw [if_pos ⟨rfl, c11, c12, c13⟩]
          rw [eM3] at hM3 hv3
          have := hv3 rfl
          subst this
          have hO3 := hM3.1.O
          have g3 := hM3.1.g
          dsimp only at g3
          simp (disch := first | assumption | omega | exact tb_sm0 | exact tb_sm1 _ | exact tb_sm2 _ _ | exact tb_sm3 _ _ _ | exact tb_sm4 _ _ _ _ | exact Or.inl rfl | exact Or.inr rfl | fail) only [r131_0, r131_1, r131_2, r131_4, r131_5, r131_6, r131_8, r131_11, r131_12, r131_13, r131_14, r131_17, r131_18, r131_21, r131_22, r131_26, r131_29, r131_30, r131_32, r131_34, r131_37, r131_40, r131_42, r131_43, r131_44, r131_45, r131_48, r131_49, r131_52, r131_53, r131_54, r131_56, r131_57, r131_58, r131_61, r131_62, r131_65, r131_66, r131_68, r131_70, r131_73, r131_75, r131_76, r131_77, r131_78, r131_80, r131_82, r131_85, r131_86, r131_89, r131_90, r131_91, r131_94, r131_95, tb_vl_some, tb_vl_none, tb_wF_some, nI_add]
          simp (disch := first | assumption | omega | exact tb_sm0 | exact tb_sm1 _ | exact tb_sm2 _ _ | exact tb_sm3 _ _ _ | exact tb_sm4 _ _ _ _ | exact Or.inl rfl | exact Or.inr rfl | fail) only [r131_24, r131_26, nI_add, pk_mul, e_sub, e_div, tb_nmod, e_dec, e_le, e_lt, e_eq, e_eq0, e_lt0, e_0le, e_0lt, e_le0, if_true, if_false, not_true_eq_false, not_false_eq_true, ite_true, ite_false, Nat.reduceAdd, Nat.reduceMul, Nat.reduceLeDiff, Nat.reduceLT, Nat.reduceEqDiff, Nat.reduceSub, ↓reduceIte, Nat.reduceDiv, Nat.reduceMod]
          have nx3 := fun {Q'} => m_isNext (E := E) (d := d - 1) (nx := nx) (Q := Q') hM3 hT h60 (show p + 2 ≤ 60 by omega) (show 57 < 1000 by decide) (show 48 < 1000 by decide) (show 1 ≤ d - 1 by omega)
          have tx3 : ∀ {j : Nat} (hj : j < 60) {K : Int32 → Prop}, tb_wF (tb_ld E h3 0 (m + 6) (nI j)) K = K (nI (g.2.2.1 j)) := fun hj => hM3.2.2.2.2.2.2.1.ld hj (by decide)
          have hT2 := hT (p + 2)
          have done := fin h3 (10 * (g.2.2.1 p - 48) + (g.2.2.1 (p + 1) - 48)) 0 _ hM3 (fun q hq => by rw [hF3 q hq, hF2 q hq]) (by rw [en, if_pos c5]) (by unfold ps_val; rw [if_pos c5])
          by_cases c6 : p + 2 < g.2.2.2.1 ∧ 48 ≤ g.2.2.1 (p + 2) ∧ g.2.2.1 (p + 2) ≤ 57
          · rw [if_pos c6] at nx3
            have hp62 : p + 2 < 60 := by omega
            have c7 : hi < 10 * (10 * (g.2.2.1 p - 48) + (g.2.2.1 (p + 1) - 48)) + g.2.2.1 (p + 2) - 48 := by omega
            simp (disch := first | assumption | omega | exact tb_sm0 | exact tb_sm1 _ | exact tb_sm2 _ _ | exact tb_sm3 _ _ _ | exact tb_sm4 _ _ _ _ | exact Or.inl rfl | exact Or.inr rfl | fail) only [r131_0, r131_1, r131_2, r131_4, r131_5, r131_6, r131_8, r131_11, r131_12, r131_13, r131_14, r131_17, r131_18, r131_21, r131_22, r131_26, r131_29, r131_30, r131_32, r131_34, r131_37, r131_40, r131_42, r131_43, r131_44, r131_45, r131_48, r131_49, r131_52, r131_53, r131_54, r131_56, r131_57, r131_58, r131_61, r131_62, r131_65, r131_66, r131_68, r131_70, r131_73, r131_75, r131_76, r131_77, r131_78, r131_80, r131_82, r131_85, r131_86, r131_89, r131_90, r131_91, r131_94, r131_95, nx3, g3, tx3 hp62, c7, tb_vl_some, tb_vl_none, tb_wF_some, nI_add, pk_mul, e_sub, e_div, tb_nmod, e_dec, e_le, e_lt, e_eq, e_eq0, e_lt0, e_0le, e_0lt, e_le0, if_true, if_false, not_true_eq_false, not_false_eq_true, ite_true, ite_false, Nat.reduceAdd, Nat.reduceMul, Nat.reduceLeDiff, Nat.reduceLT, Nat.reduceEqDiff, Nat.reduceSub, ↓reduceIte, Nat.reduceDiv, Nat.reduceMod]
            exact done
          · rw [if_neg c6] at nx3
            simp (disch := first | assumption | omega | exact tb_sm0 | exact tb_sm1 _ | exact tb_sm2 _ _ | exact tb_sm3 _ _ _ | exact tb_sm4 _ _ _ _ | exact Or.inl rfl | exact Or.inr rfl | fail) only [r131_0, r131_1, r131_2, r131_4, r131_5, r131_6, r131_8, r131_11, r131_12, r131_13, r131_14, r131_17, r131_18, r131_21, r131_22, r131_26, r131_29, r131_30, r131_32, r131_34, r131_37, r131_40, r131_42, r131_43, r131_44, r131_45, r131_48, r131_49, r131_52, r131_53, r131_54, r131_56, r131_57, r131_58, r131_61, r131_62, r131_65, r131_66, r131_68, r131_70, r131_73, r131_75, r131_76, r131_77, r131_78, r131_80, r131_82, r131_85, r131_86, r131_89, r131_90, r131_91, r131_94, r131_95, nx3, g3, tb_vl_some, tb_vl_none, tb_wF_some, nI_add, pk_mul, e_sub, e_div, tb_nmod, e_dec, e_le, e_lt, e_eq, e_eq0, e_lt0, e_0le, e_0lt, e_le0, if_true, if_false, not_true_eq_false, not_false_eq_true, ite_true, ite_false, Nat.reduceAdd, Nat.reduceMul, Nat.reduceLeDiff, Nat.reduceLT, Nat.reduceEqDiff, Nat.reduceSub, ↓reduceIte, Nat.reduceDiv, Nat.reduceMod]
            exact done
      · have := no (fun q => c1 ⟨q.2.1, q.2.2.1, q.2.2.2.1⟩)
        rw [if_neg c1] at nx2
        simp (disch := first | assumption | omega | exact tb_sm0 | exact tb_sm1 _ | exact tb_sm2 _ _ | exact tb_sm3 _ _ _ | exact tb_sm4 _ _ _ _ | exact Or.inl rfl | exact Or.inr rfl | fail) only [r131_0, r131_1, r131_2, r131_4, r131_5, r131_6, r131_8, r131_11, r131_12, r131_13, r131_14, r131_17, r131_18, r131_21, r131_22, r131_26, r131_29, r131_30, r131_32, r131_34, r131_37, r131_40, r131_42, r131_43, r131_44, r131_45, r131_48, r131_49, r131_52, r131_53, r131_54, r131_56, r131_57, r131_58, r131_61, r131_62, r131_65, r131_66, r131_68, r131_70, r131_73, r131_75, r131_76, r131_77, r131_78, r131_80, r131_82, r131_85, r131_86, r131_89, r131_90, r131_91, r131_94, r131_95, nx2, g2, tb_vl_some, tb_vl_none, tb_wF_some, nI_add, pk_mul, e_sub, e_div, tb_nmod, e_dec, e_le, e_lt, e_eq, e_eq0, e_lt0, e_0le, e_0lt, e_le0, if_true, if_false, not_true_eq_false, not_false_eq_true, ite_true, ite_false, Nat.reduceAdd, Nat.reduceMul, Nat.reduceLeDiff, Nat.reduceLT, Nat.reduceEqDiff, Nat.reduceSub, ↓reduceIte, Nat.reduceDiv, Nat.reduceMod]
        exact this
  · have en : ps_num g.2.2.1 g.2.2.2.1 lo hi r = (false, r.2) := by
      unfold ps_num
      rw [if_neg (fun q => c q.1)]
      unfold ps_t at c ⊢
      by_cases c9 : r.1 = true ∧ r.2 < g.2.2.2.1 ∧ 48 + lo ≤ g.2.2.1 r.2 ∧ g.2.2.1 r.2 ≤ 57
      · rw [if_pos c9] at c; exact absurd rfl c
      · rw [if_neg c9]
    have eM : ps_t g.2.2.1 g.2.2.2.1 (48 + lo) 57 r = (false, r.2) := by
      have e := en
      unfold ps_num at e
      rw [if_neg (fun q => c q.1)] at e
      exact e
    rw [eM] at hM2
    rw [en] at hQ
    have nf := fun {Q'} => m_isNext_f (E := E) (d := d - 1) (nx := nx) (Q := Q') (lo := 48) (hi := 57) hM2
    simp (disch := first | assumption | omega | exact tb_sm0 | exact tb_sm1 _ | exact tb_sm2 _ _ | exact tb_sm3 _ _ _ | exact tb_sm4 _ _ _ _ | exact Or.inl rfl | exact Or.inr rfl | fail) only [r131_11, r131_12, r131_13, r131_14]
    by_cases c0 : nI lo + v ≤ 0
    · simp (disch := first | assumption | omega | exact tb_sm0 | exact tb_sm1 _ | exact tb_sm2 _ _ | exact tb_sm3 _ _ _ | exact tb_sm4 _ _ _ _ | exact Or.inl rfl | exact Or.inr rfl | fail) only [r131_0, r131_1, r131_2, r131_4, r131_5, r131_6, r131_8, r131_11, r131_12, r131_13, r131_14, r131_17, r131_18, r131_21, r131_22, r131_24, r131_26, r131_29, r131_30, r131_32, r131_34, r131_37, r131_40, r131_42, r131_43, r131_44, r131_45, r131_48, r131_49, r131_52, r131_53, r131_54, r131_56, r131_57, r131_58, r131_61, r131_62, r131_65, r131_66, r131_68, r131_70, r131_73, r131_75, r131_76, r131_77, r131_78, r131_80, r131_82, r131_85, r131_86, r131_89, r131_90, r131_91, r131_94, r131_95, c0, nI_add, pk_mul, e_sub, e_div, tb_nmod, e_dec, e_le, e_lt, e_eq, e_eq0, e_lt0, e_0le, e_0lt, e_le0, if_true, if_false, not_true_eq_false, not_false_eq_true, ite_true, ite_false, Nat.reduceAdd, Nat.reduceMul, Nat.reduceLeDiff, Nat.reduceLT, Nat.reduceEqDiff, Nat.reduceSub, ↓reduceIte, Nat.reduceDiv, Nat.reduceMod]
      exact hQ h2 _ hM2 hF2 (fun q => by cases q)
    · simp (disch := first | assumption | omega | exact tb_sm0 | exact tb_sm1 _ | exact tb_sm2 _ _ | exact tb_sm3 _ _ _ | exact tb_sm4 _ _ _ _ | exact Or.inl rfl | exact Or.inr rfl | fail) only [r131_0, r131_1, r131_2, r131_4, r131_5, r131_6, r131_8, r131_11, r131_12, r131_13, r131_14, r131_17, r131_18, r131_21, r131_22, r131_24, r131_26, r131_29, r131_30, r131_32, r131_34, r131_37, r131_40, r131_42, r131_43, r131_44, r131_45, r131_48, r131_49, r131_52, r131_53, r131_54, r131_56, r131_57, r131_58, r131_61, r131_62, r131_65, r131_66, r131_68, r131_70, r131_73, r131_75, r131_76, r131_77, r131_78, r131_80, r131_82, r131_85, r131_86, r131_89, r131_90, r131_91, r131_94, r131_95, c0, nf, tb_vl_some, tb_vl_none, tb_wF_some, nI_add, pk_mul, e_sub, e_div, tb_nmod, e_dec, e_le, e_lt, e_eq, e_eq0, e_lt0, e_0le, e_0lt, e_le0, if_true, if_false, not_true_eq_false, not_false_eq_true, ite_true, ite_false, Nat.reduceAdd, Nat.reduceMul, Nat.reduceLeDiff, Nat.reduceLT, Nat.reduceEqDiff, Nat.reduceSub, ↓reduceIte, Nat.reduceDiv, Nat.reduceMod]
      exact hQ h2 _ hM2 hF2 (fun q => by cases q)
end M11
