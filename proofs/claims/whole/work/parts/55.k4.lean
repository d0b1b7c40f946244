/-! THE CLASS ITSELF: perform -/
theorem ps_go_cnt {tx : Nat → Nat} {le : Nat} (f : Nat) : ∀ p n, (ps_go tx le f p n).1 = true → n < (ps_go tx le f p n).2.2 ∧ (ps_go tx le f p n).2.2 ≤ n + f := by
  induction f with
  | zero => intro p n h; cases h
  | succ f ih =>
    intro p n h
    rw [ps_go] at h ⊢
    split at h
    · rename_i c1
      rw [if_pos c1]
      split at h
      · rename_i c2
        rw [if_pos c2]
        split at h
        · rename_i c3
          rw [if_pos c3]
          have := ih _ _ h
          omega
        · cases h
      · rename_i c2
        rw [if_neg c2]
        exact ⟨Nat.lt_succ_self n, by show n + 1 ≤ _; omega⟩
    · cases h
section C13
variable {E : tb_env} {d : Nat} {h : tb_heap} {nx : Nat} {Q : Option Value → tb_heap → Nat → Prop} {x kn : Nat} {s : Nat → Nat} {hs : Nat → Nat → Nat} {g : sp_G}
theorem k_carryOut {tx : Nat → Nat} {le : Nat} {r : Bool × Nat} {v w : ps_V} (hC : tb_CF h x s hs kn g) (hP : tb_OP h (x + 196) tx le r v) (hok : ps_ok w) (cv : ps_cv v w) (hW : sp_W s) (hd : 5 ≤ d) (hQ : ∀ h', tb_St h' (x + 1) (ac_ord w s).2 → (∀ q, q < x + 1 ∨ x + 28 ≤ q → h' q = h q) → Q (some (.int (ac_ord w s).1)) h' nx) :
    tb_wp E d 83 0 [.ref x] [] h nx 0 0 Q := by
  have g0 := hC.1.f
  have gp := hP.g
  have oN := hC.2.1.1.O
  obtain ⟨v1, v2, v3, v4, v5⟩ := v
  obtain ⟨b, c, k, n, hb, hc, hk, hh⟩ := hok
  obtain ⟨c1, c2, c3, c4⟩ := cv
  dsimp only at gp c1 c2 c3 c4
  rcases hh with ⟨rfl, hn1, hn⟩ | ⟨rfl, hn⟩ | ⟨rfl, hn1, hn⟩ | rfl | rfl <;> dsimp only at c1 c2 c3 c4 <;> subst c1
  · have e5 := c4 (Or.inl rfl)
    subst e5
    have e : ac_ord (46, 0, 0, 0, v5) s = ac_pass s (nI v5) := by
      unfold ac_ord
      dsimp only
      rw [if_neg (by decide), if_neg (by decide), if_neg (by decide), if_neg (by decide)]
    rw [e] at hQ
    simp (disch := first | assumption | omega | exact tb_sm0 | exact tb_sm1 _ | exact tb_sm2 _ _ | exact tb_sm3 _ _ _ | exact tb_sm4 _ _ _ _ | exact Or.inl rfl | exact Or.inr rfl | fail) only [r83_0, r83_1, r83_4, r83_7, r83_9, r83_12, r83_13, r83_16, r83_17, r83_20, r83_23, r83_24, r83_27, r83_30, r83_33, r83_34, r83_35, r83_38, r83_41, r83_43, r83_46, r83_47, r83_50, r83_51, r83_54, r83_57, r83_58, r83_61, r83_64, r83_65, r83_68, r83_71, r83_72, r83_75, r83_78, r83_81, r83_82, r83_83, r83_86, r83_89, r83_91, r83_94, r83_95, r83_98, r83_99, r83_102, r83_105, r83_108, r83_109, r83_110, r83_113, r83_116, r83_118, r83_121, r83_122, r83_125, r83_126, r83_129, r83_132, r83_135, r83_136, r83_137, r83_140, r83_141, r83_144, r83_147, r83_150, g0, gp, tb_vl_some, tb_vl_none, tb_wF_some, nI_add, pk_mul, e_sub, e_div, tb_nmod, e_dec, e_le, e_lt, e_eq, e_eq0, e_lt0, e_0le, e_0lt, e_le0, if_true, if_false, not_true_eq_false, not_false_eq_true, ite_true, ite_false, Nat.reduceAdd, Nat.reduceMul, Nat.reduceLeDiff, Nat.reduceLT, Nat.reduceEqDiff, Nat.reduceSub, ↓reduceIte, Nat.reduceDiv, Nat.reduceMod]
    refine s_pass hC.2.1 hW (by omega) (fun h2 hS2 hF2 => ?_)
    try simp (disch := first | assumption | omega | exact tb_sm0 | exact tb_sm1 _ | exact tb_sm2 _ _ | exact tb_sm3 _ _ _ | exact tb_sm4 _ _ _ _ | exact Or.inl rfl | exact Or.inr rfl | fail) only [r83_0, r83_1, r83_4, r83_7, r83_9, r83_12, r83_13, r83_16, r83_17, r83_20, r83_23, r83_24, r83_27, r83_30, r83_33, r83_34, r83_35, r83_38, r83_41, r83_43, r83_46, r83_47, r83_50, r83_51, r83_54, r83_57, r83_58, r83_61, r83_64, r83_65, r83_68, r83_71, r83_72, r83_75, r83_78, r83_81, r83_82, r83_83, r83_86, r83_89, r83_91, r83_94, r83_95, r83_98, r83_99, r83_102, r83_105, r83_108, r83_109, r83_110, r83_113, r83_116, r83_118, r83_121, r83_122, r83_125, r83_126, r83_129, r83_132, r83_135, r83_136, r83_137, r83_140, r83_141, r83_144, r83_147, r83_150, tb_vl_some, tb_vl_none, tb_wF_some]
    exact hQ h2 hS2 (fun q hq => hF2 q (by omega))
  · have e2 := c2 (by decide)
    have e5 := c4 (Or.inr (Or.inl rfl))
    subst e2
    subst e5
    have e : ac_ord (116, v2, 0, 0, v5) s = ac_tilt s (nI v2) (nI v5) := by
      unfold ac_ord
      dsimp only
      rw [if_pos rfl]
    rw [e] at hQ
    simp (disch := first | assumption | omega | exact tb_sm0 | exact tb_sm1 _ | exact tb_sm2 _ _ | exact tb_sm3 _ _ _ | exact tb_sm4 _ _ _ _ | exact Or.inl rfl | exact Or.inr rfl | fail) only [r83_0, r83_1, r83_4, r83_7, r83_9, r83_12, r83_13, r83_16, r83_17, r83_20, r83_23, r83_24, r83_27, r83_30, r83_33, r83_34, r83_35, r83_38, r83_41, r83_43, r83_46, r83_47, r83_50, r83_51, r83_54, r83_57, r83_58, r83_61, r83_64, r83_65, r83_68, r83_71, r83_72, r83_75, r83_78, r83_81, r83_82, r83_83, r83_86, r83_89, r83_91, r83_94, r83_95, r83_98, r83_99, r83_102, r83_105, r83_108, r83_109, r83_110, r83_113, r83_116, r83_118, r83_121, r83_122, r83_125, r83_126, r83_129, r83_132, r83_135, r83_136, r83_137, r83_140, r83_141, r83_144, r83_147, r83_150, g0, gp, tb_vl_some, tb_vl_none, tb_wF_some, nI_add, pk_mul, e_sub, e_div, tb_nmod, e_dec, e_le, e_lt, e_eq, e_eq0, e_lt0, e_0le, e_0lt, e_le0, if_true, if_false, not_true_eq_false, not_false_eq_true, ite_true, ite_false, Nat.reduceAdd, Nat.reduceMul, Nat.reduceLeDiff, Nat.reduceLT, Nat.reduceEqDiff, Nat.reduceSub, ↓reduceIte, Nat.reduceDiv, Nat.reduceMod]
    refine s_tilt hC.2.1 hW.1 (by omega) (fun h2 hS2 hF2 => ?_)
    try simp (disch := first | assumption | omega | exact tb_sm0 | exact tb_sm1 _ | exact tb_sm2 _ _ | exact tb_sm3 _ _ _ | exact tb_sm4 _ _ _ _ | exact Or.inl rfl | exact Or.inr rfl | fail) only [r83_0, r83_1, r83_4, r83_7, r83_9, r83_12, r83_13, r83_16, r83_17, r83_20, r83_23, r83_24, r83_27, r83_30, r83_33, r83_34, r83_35, r83_38, r83_41, r83_43, r83_46, r83_47, r83_50, r83_51, r83_54, r83_57, r83_58, r83_61, r83_64, r83_65, r83_68, r83_71, r83_72, r83_75, r83_78, r83_81, r83_82, r83_83, r83_86, r83_89, r83_91, r83_94, r83_95, r83_98, r83_99, r83_102, r83_105, r83_108, r83_109, r83_110, r83_113, r83_116, r83_118, r83_121, r83_122, r83_125, r83_126, r83_129, r83_132, r83_135, r83_136, r83_137, r83_140, r83_141, r83_144, r83_147, r83_150, tb_vl_some, tb_vl_none, tb_wF_some]
    exact hQ h2 hS2 (fun q hq => hF2 q (by omega))
  · have e2 := c2 (by decide)
    obtain ⟨e3, e4⟩ := c3 rfl
    have e5 := c4 (Or.inr (Or.inr rfl))
    subst e2
    subst e3
    subst e4
    subst e5
    have e : ac_ord (112, v2, v3, v4, v5) s = ac_pour s (nI v2) (nI v3) (nI v4) (nI v5) := by
      unfold ac_ord
      dsimp only
      rw [if_neg (by decide), if_pos rfl]
    rw [e] at hQ
    simp (disch := first | assumption | omega | exact tb_sm0 | exact tb_sm1 _ | exact tb_sm2 _ _ | exact tb_sm3 _ _ _ | exact tb_sm4 _ _ _ _ | exact Or.inl rfl | exact Or.inr rfl | fail) only [r83_0, r83_1, r83_4, r83_7, r83_9, r83_12, r83_13, r83_16, r83_17, r83_20, r83_23, r83_24, r83_27, r83_30, r83_33, r83_34, r83_35, r83_38, r83_41, r83_43, r83_46, r83_47, r83_50, r83_51, r83_54, r83_57, r83_58, r83_61, r83_64, r83_65, r83_68, r83_71, r83_72, r83_75, r83_78, r83_81, r83_82, r83_83, r83_86, r83_89, r83_91, r83_94, r83_95, r83_98, r83_99, r83_102, r83_105, r83_108, r83_109, r83_110, r83_113, r83_116, r83_118, r83_121, r83_122, r83_125, r83_126, r83_129, r83_132, r83_135, r83_136, r83_137, r83_140, r83_141, r83_144, r83_147, r83_150, g0, gp, tb_vl_some, tb_vl_none, tb_wF_some, nI_add, pk_mul, e_sub, e_div, tb_nmod, e_dec, e_le, e_lt, e_eq, e_eq0, e_lt0, e_0le, e_0lt, e_le0, if_true, if_false, not_true_eq_false, not_false_eq_true, ite_true, ite_false, Nat.reduceAdd, Nat.reduceMul, Nat.reduceLeDiff, Nat.reduceLT, Nat.reduceEqDiff, Nat.reduceSub, ↓reduceIte, Nat.reduceDiv, Nat.reduceMod]
    refine s_pour hC.2.1 hW.1 (by omega) (fun h2 hS2 hF2 => ?_)
    try simp (disch := first | assumption | omega | exact tb_sm0 | exact tb_sm1 _ | exact tb_sm2 _ _ | exact tb_sm3 _ _ _ | exact tb_sm4 _ _ _ _ | exact Or.inl rfl | exact Or.inr rfl | fail) only [r83_0, r83_1, r83_4, r83_7, r83_9, r83_12, r83_13, r83_16, r83_17, r83_20, r83_23, r83_24, r83_27, r83_30, r83_33, r83_34, r83_35, r83_38, r83_41, r83_43, r83_46, r83_47, r83_50, r83_51, r83_54, r83_57, r83_58, r83_61, r83_64, r83_65, r83_68, r83_71, r83_72, r83_75, r83_78, r83_81, r83_82, r83_83, r83_86, r83_89, r83_91, r83_94, r83_95, r83_98, r83_99, r83_102, r83_105, r83_108, r83_109, r83_110, r83_113, r83_116, r83_118, r83_121, r83_122, r83_125, r83_126, r83_129, r83_132, r83_135, r83_136, r83_137, r83_140, r83_141, r83_144, r83_147, r83_150, tb_vl_some, tb_vl_none, tb_wF_some]
    exact hQ h2 hS2 (fun q hq => hF2 q (by omega))
  · have e2 := c2 (by decide)
    subst e2
    have e : ac_ord (106, v2, 0, 0, 0) s = ac_jolt s (nI v2) := by
      unfold ac_ord
      dsimp only
      rw [if_neg (by decide), if_neg (by decide), if_pos rfl]
    rw [e] at hQ
    simp (disch := first | assumption | omega | exact tb_sm0 | exact tb_sm1 _ | exact tb_sm2 _ _ | exact tb_sm3 _ _ _ | exact tb_sm4 _ _ _ _ | exact Or.inl rfl | exact Or.inr rfl | fail) only [r83_0, r83_1, r83_4, r83_7, r83_9, r83_12, r83_13, r83_16, r83_17, r83_20, r83_23, r83_24, r83_27, r83_30, r83_33, r83_34, r83_35, r83_38, r83_41, r83_43, r83_46, r83_47, r83_50, r83_51, r83_54, r83_57, r83_58, r83_61, r83_64, r83_65, r83_68, r83_71, r83_72, r83_75, r83_78, r83_81, r83_82, r83_83, r83_86, r83_89, r83_91, r83_94, r83_95, r83_98, r83_99, r83_102, r83_105, r83_108, r83_109, r83_110, r83_113, r83_116, r83_118, r83_121, r83_122, r83_125, r83_126, r83_129, r83_132, r83_135, r83_136, r83_137, r83_140, r83_141, r83_144, r83_147, r83_150, g0, gp, tb_vl_some, tb_vl_none, tb_wF_some, nI_add, pk_mul, e_sub, e_div, tb_nmod, e_dec, e_le, e_lt, e_eq, e_eq0, e_lt0, e_0le, e_0lt, e_le0, if_true, if_false, not_true_eq_false, not_false_eq_true, ite_true, ite_false, Nat.reduceAdd, Nat.reduceMul, Nat.reduceLeDiff, Nat.reduceLT, Nat.reduceEqDiff, Nat.reduceSub, ↓reduceIte, Nat.reduceDiv, Nat.reduceMod]
    refine s_jolt hC.2.1 hW.1 (by omega) (fun h2 hS2 hF2 => ?_)
    try simp (disch := first | assumption | omega | exact tb_sm0 | exact tb_sm1 _ | exact tb_sm2 _ _ | exact tb_sm3 _ _ _ | exact tb_sm4 _ _ _ _ | exact Or.inl rfl | exact Or.inr rfl | fail) only [r83_0, r83_1, r83_4, r83_7, r83_9, r83_12, r83_13, r83_16, r83_17, r83_20, r83_23, r83_24, r83_27, r83_30, r83_33, r83_34, r83_35, r83_38, r83_41, r83_43, r83_46, r83_47, r83_50, r83_51, r83_54, r83_57, r83_58, r83_61, r83_64, r83_65, r83_68, r83_71, r83_72, r83_75, r83_78, r83_81, r83_82, r83_83, r83_86, r83_89, r83_91, r83_94, r83_95, r83_98, r83_99, r83_102, r83_105, r83_108, r83_109, r83_110, r83_113, r83_116, r83_118, r83_121, r83_122, r83_125, r83_126, r83_129, r83_132, r83_135, r83_136, r83_137, r83_140, r83_141, r83_144, r83_147, r83_150, tb_vl_some, tb_vl_none, tb_wF_some]
    exact hQ h2 hS2 (fun q hq => hF2 q (by omega))
  · have e2 := c2 (by decide)
    subst e2
    have e : ac_ord (101, v2, 0, 0, 0) s = ac_empty s (nI v2) := by
      unfold ac_ord
      dsimp only
      rw [if_neg (by decide), if_neg (by decide), if_neg (by decide), if_pos rfl]
    rw [e] at hQ
    simp (disch := first | assumption | omega | exact tb_sm0 | exact tb_sm1 _ | exact tb_sm2 _ _ | exact tb_sm3 _ _ _ | exact tb_sm4 _ _ _ _ | exact Or.inl rfl | exact Or.inr rfl | fail) only [r83_0, r83_1, r83_4, r83_7, r83_9, r83_12, r83_13, r83_16, r83_17, r83_20, r83_23, r83_24, r83_27, r83_30, r83_33, r83_34, r83_35, r83_38, r83_41, r83_43, r83_46, r83_47, r83_50, r83_51, r83_54, r83_57, r83_58, r83_61, r83_64, r83_65, r83_68, r83_71, r83_72, r83_75, r83_78, r83_81, r83_82, r83_83, r83_86, r83_89, r83_91, r83_94, r83_95, r83_98, r83_99, r83_102, r83_105, r83_108, r83_109, r83_110, r83_113, r83_116, r83_118, r83_121, r83_122, r83_125, r83_126, r83_129, r83_132, r83_135, r83_136, r83_137, r83_140, r83_141, r83_144, r83_147, r83_150, g0, gp, tb_vl_some, tb_vl_none, tb_wF_some, nI_add, pk_mul, e_sub, e_div, tb_nmod, e_dec, e_le, e_lt, e_eq, e_eq0, e_lt0, e_0le, e_0lt, e_le0, if_true, if_false, not_true_eq_false, not_false_eq_true, ite_true, ite_false, Nat.reduceAdd, Nat.reduceMul, Nat.reduceLeDiff, Nat.reduceLT, Nat.reduceEqDiff, Nat.reduceSub, ↓reduceIte, Nat.reduceDiv, Nat.reduceMod]
    refine s_empty hC.2.1 hW.2 (by omega) (fun h2 hS2 hF2 => ?_)
    try simp (disch := first | assumption | omega | exact tb_sm0 | exact tb_sm1 _ | exact tb_sm2 _ _ | exact tb_sm3 _ _ _ | exact tb_sm4 _ _ _ _ | exact Or.inl rfl | exact Or.inr rfl | fail) only [r83_0, r83_1, r83_4, r83_7, r83_9, r83_12, r83_13, r83_16, r83_17, r83_20, r83_23, r83_24, r83_27, r83_30, r83_33, r83_34, r83_35, r83_38, r83_41, r83_43, r83_46, r83_47, r83_50, r83_51, r83_54, r83_57, r83_58, r83_61, r83_64, r83_65, r83_68, r83_71, r83_72, r83_75, r83_78, r83_81, r83_82, r83_83, r83_86, r83_89, r83_91, r83_94, r83_95, r83_98, r83_99, r83_102, r83_105, r83_108, r83_109, r83_110, r83_113, r83_116, r83_118, r83_121, r83_122, r83_125, r83_126, r83_129, r83_132, r83_135, r83_136, r83_137, r83_140, r83_141, r83_144, r83_147, r83_150, tb_vl_some, tb_vl_none, tb_wF_some]
    exact hQ h2 hS2 (fun q hq => hF2 q (by omega))
theorem k_perf_l {s0 : Nat → Nat} {tot : Nat} (hm : sp_mb s0) (hT : ∀ j, g.2.2.1 j < 65536) (h60 : g.2.2.2.1 ≤ 60) (ht : tot < 1000) (hd : 6 ≤ d) (f : Nat) : ∀ (p n : Nat) (h : tb_heap) (s : Nat → Nat) (v : ps_V) (y : Value), g.2.2.2.1 + 1 ≤ p + f → p ≤ g.2.2.2.1 → (ps_go g.2.2.1 g.2.2.2.1 f p n).1 = true → (ps_go g.2.2.1 g.2.2.2.1 f p n).2.2 = tot → sp_W s → tb_CF h x s hs kn g → tb_St h (x + 28) s0 → tb_OP h (x + 196) g.2.2.1 g.2.2.2.1 (true, p) v → v.1 < 65536 →
    (¬ (ps_do g.2.2.1 g.2.2.2.1 f p n s).1 < 0 → (ps_do g.2.2.1 g.2.2.2.1 f p n s).2.1 = tot → ∀ h', tb_CF h' x (ps_do g.2.2.1 g.2.2.2.1 f p n s).2.2 (sp_rec hs kn s0).1 (sp_rec hs kn s0).2 g → tb_out h h' x (x + 198) → Q (some (.int (nI tot))) h' nx) →
    ((ps_do g.2.2.1 g.2.2.2.1 f p n s).1 < 0 → ∀ h', tb_CF h' x s0 hs kn (g.1, g.2.1, g.2.2.1, g.2.2.2.1, nI (ps_do g.2.2.1 g.2.2.2.1 f p n s).2.1, (ps_do g.2.2.1 g.2.2.2.1 f p n s).1) → tb_out h h' x (x + 198) → Q (some (.int (-4))) h' nx) →
    tb_wp E d 65 49 [.ref x, .int (nI tot), .int (nI n), y] [] h nx 0 0 Q := by
  induction f with
  | zero => intro p n h s v y h1 h2 h3; cases h3
  | succ f ih =>
    intro p n h s v y h1 h2 h3 h4 hW hC hB hP hv hQ1 hQ2
    have g0 := hC.1.f
    have oX := hC.1.O
    have oP := hP.O
    have hcnt := (ps_go_cnt _ _ _ h3).1
    have hnt : ¬ tot ≤ n := by omega
    have hn31 : n < 2 ^ 31 := by omega
    simp (disch := first | assumption | omega | exact tb_sm0 | exact tb_sm1 _ | exact tb_sm2 _ _ | exact tb_sm3 _ _ _ | exact tb_sm4 _ _ _ _ | exact Or.inl rfl | exact Or.inr rfl | fail) only [r65_49, r65_50, r65_51, hnt, nI_add, pk_mul, e_sub, e_div, tb_nmod, e_dec, e_le, e_lt, e_eq, e_eq0, e_lt0, e_0le, e_0lt, e_le0, if_true, if_false, not_true_eq_false, not_false_eq_true, ite_true, ite_false, Nat.reduceAdd, Nat.reduceMul, Nat.reduceLeDiff, Nat.reduceLT, Nat.reduceEqDiff, Nat.reduceSub, ↓reduceIte, Nat.reduceDiv, Nat.reduceMod]
    simp (disch := first | assumption | omega | exact tb_sm0 | exact tb_sm1 _ | exact tb_sm2 _ _ | exact tb_sm3 _ _ _ | exact tb_sm4 _ _ _ _ | exact Or.inl rfl | exact Or.inr rfl | fail) only [r65_54, r65_55, r65_58, g0, tb_vl_some, tb_vl_none, tb_wF_some]
    refine o_readNext hP hv hT h60 h2 (by omega) (fun h5 v5 hP5 hv5 hF5 hc5 => ?_)
    have fr5 : tb_out h h5 x (x + 198) := fun q hq => hF5 q (by omega)
    have hC5 : tb_CF h5 x s hs kn g := hC.upX (tx' := g.2.2.1) (le' := g.2.2.2.1) ⟨_, v5, hP5, hv5⟩ (fun q hq => hF5 q (by omega))
    have hB5 := hB.fr (h' := h5) (fun q q1 q2 => hF5 q (by omega))
    have oX5 := hC5.1.O
    simp (disch := first | assumption | omega | exact tb_sm0 | exact tb_sm1 _ | exact tb_sm2 _ _ | exact tb_sm3 _ _ _ | exact tb_sm4 _ _ _ _ | exact Or.inl rfl | exact Or.inr rfl | fail) only [r65_61, r65_62, r65_63, tb_vl_some, tb_vl_none, tb_wF_some, Nat.reduceAdd]
    have hok := ps_ord_ok (tx := g.2.2.1) (le := g.2.2.2.1) (p := p)
    rw [ps_do] at hQ1 hQ2
    rw [ps_go] at h3 h4
    unfold ps_nx at hP5
    generalize ps_ord g.2.2.1 g.2.2.2.1 p = o at *
    obtain ⟨⟨ok, p2⟩, w⟩ := o
    dsimp only at hok hQ1 hQ2 hP5 h3 h4 hc5
    have eok : ok = true := by
      cases ok with
      | true => rfl
      | false => rw [if_neg (by decide)] at h3; cases h3
    subst eok
    rw [if_pos rfl] at h3 h4
    obtain ⟨k1, k2, k3⟩ := hok rfl
    refine k_carryOut hC5 hP5 k3 (hc5 rfl) hW (by omega) (fun h6 hS6 hF6 => ?_)
    have hC6 := hC5.upS hS6 (fun q hq => hF6 q (by omega))
    have hB6 := hB5.fr (h' := h6) (fun q q1 q2 => hF6 q (by omega))
    have hP6 := hP5.fr (h' := h6) (fun q q1 q2 => hF6 q (by omega))
    have fr6 : tb_out h h6 x (x + 198) := fun q hq => by rw [hF6 q (by omega), fr5 q hq]
    have hW6 := W_ord hW w
    have g6 := hC6.1.f
    have oX6 := hC6.1.O
    have oN6 := hC6.2.1.1.O
    generalize ac_ord w s = A at *
    obtain ⟨z, s6⟩ := A
    dsimp only at hQ1 hQ2 hC6 hS6 hW6 oN6
    simp (disch := first | assumption | omega | exact tb_sm0 | exact tb_sm1 _ | exact tb_sm2 _ _ | exact tb_sm3 _ _ _ | exact tb_sm4 _ _ _ _ | exact Or.inl rfl | exact Or.inr rfl | fail) only [r65_66, tb_vl_some, tb_vl_none, tb_wF_some]
    have go : ¬ (z < 0 ∧ ¬ z = -5) → tb_wp E d 65 101 [.ref x, .int (nI tot), .int (nI n), .int z] [] h6 nx 0 0 Q := by
      intro hz
      rw [if_neg hz] at hQ1 hQ2
      simp (disch := first | assumption | omega | exact tb_sm0 | exact tb_sm1 _ | exact tb_sm2 _ _ | exact tb_sm3 _ _ _ | exact tb_sm4 _ _ _ _ | exact Or.inl rfl | exact Or.inr rfl | fail) only [r65_101, r65_104, nI_add]
      by_cases c1 : p2 < g.2.2.2.1
      · rw [if_pos c1] at hQ1 hQ2 h3 h4
        rw [if_pos ⟨rfl, c1⟩] at hP6
        have c2 : (ps_t g.2.2.1 g.2.2.2.1 59 59 (true, p2)).1 = true := by
          by_cases c2 : (ps_t g.2.2.1 g.2.2.2.1 59 59 (true, p2)).1 = true
          · exact c2
          · rw [if_neg c2] at h3; cases h3
        rw [if_pos c2] at h3 h4
        have e4 : ps_t g.2.2.1 g.2.2.2.1 59 59 (true, p2) = (true, p2 + 1) := Prod.ext c2 (ps_t_ok c2).2.2.2.2
        rw [e4] at hP6
        exact ih (p2 + 1) (n + 1) h6 s6 v5 _ (by omega) (by omega) h3 h4 hW6 hC6 hB6 hP6 hv5 (fun a1 a2 h7 a3 a4 => hQ1 a1 a2 h7 a3 (fr6.tr a4)) (fun a1 h7 a3 a4 => hQ2 a1 h7 a3 (fr6.tr a4))
      · rw [if_neg c1] at hQ1 hQ2 h4
        dsimp only at h4 hQ1 hQ2
        have hte : tot ≤ n + 1 := by omega
        simp (disch := first | assumption | omega | exact tb_sm0 | exact tb_sm1 _ | exact tb_sm2 _ _ | exact tb_sm3 _ _ _ | exact tb_sm4 _ _ _ _ | exact Or.inl rfl | exact Or.inr rfl | fail) only [r65_49, r65_50, r65_51, hte, nI_add, pk_mul, e_sub, e_div, tb_nmod, e_dec, e_le, e_lt, e_eq, e_eq0, e_lt0, e_0le, e_0lt, e_le0, if_true, if_false, not_true_eq_false, not_false_eq_true, ite_true, ite_false, Nat.reduceAdd, Nat.reduceMul, Nat.reduceLeDiff, Nat.reduceLT, Nat.reduceEqDiff, Nat.reduceSub, ↓reduceIte, Nat.reduceDiv, Nat.reduceMod]
        simp (disch := first | assumption | omega | exact tb_sm0 | exact tb_sm1 _ | exact tb_sm2 _ _ | exact tb_sm3 _ _ _ | exact tb_sm4 _ _ _ _ | exact Or.inl rfl | exact Or.inr rfl | fail) only [r65_107, r65_108, r65_109]
        refine k_recorded hC6 hB6 hm (by omega) (fun h7 hC7 hF7 => ?_)
        try simp (disch := first | assumption | omega | exact tb_sm0 | exact tb_sm1 _ | exact tb_sm2 _ _ | exact tb_sm3 _ _ _ | exact tb_sm4 _ _ _ _ | exact Or.inl rfl | exact Or.inr rfl | fail) only [r65_112, tb_vl_some, tb_vl_none, tb_wF_some, Nat.reduceAdd]
        have e : sp_rc (nI tot) hs kn s0 = sp_rec hs kn s0 := by unfold sp_rc; rw [if_neg (by rw [e_lt0 (by omega)]; exact id)]
        rw [e] at hC7
        exact hQ1 (by decide) h4 h7 hC7 (fr6.tr hF7)
    by_cases c1 : z < 0
    · have c1' : ¬ 0 ≤ z := Int32.not_le.mpr c1
      by_cases c2 : z = -5
      · have := go (fun q => q.2 c2)
        simp (disch := first | assumption | omega | exact tb_sm0 | exact tb_sm1 _ | exact tb_sm2 _ _ | exact tb_sm3 _ _ _ | exact tb_sm4 _ _ _ _ | exact Or.inl rfl | exact Or.inr rfl | fail) only [r65_67, r65_68, r65_71, r65_72, r65_74, c1', eq_true c2, tb_vl_some, tb_vl_none, tb_wF_some, nI_add, pk_mul, e_sub, e_div, tb_nmod, e_dec, e_le, e_lt, e_eq, e_eq0, e_lt0, e_0le, e_0lt, e_le0, if_true, if_false, not_true_eq_false, not_false_eq_true, ite_true, ite_false, Nat.reduceAdd, Nat.reduceMul, Nat.reduceLeDiff, Nat.reduceLT, Nat.reduceEqDiff, Nat.reduceSub, ↓reduceIte, Nat.reduceDiv, Nat.reduceMod]
        exact this
      · rw [if_pos ⟨c1, c2⟩] at hQ2
        dsimp only at hQ2
        simp (disch := first | assumption | omega | exact tb_sm0 | exact tb_sm1 _ | exact tb_sm2 _ _ | exact tb_sm3 _ _ _ | exact tb_sm4 _ _ _ _ | exact Or.inl rfl | exact Or.inr rfl | fail) only [r65_0, r65_1, r65_4, r65_7, r65_8, r65_9, r65_12, r65_15, r65_18, r65_20, r65_21, r65_24, r65_27, r65_28, r65_29, r65_30, r65_33, r65_34, r65_37, r65_40, r65_41, r65_44, r65_47, r65_48, r65_50, r65_51, r65_54, r65_55, r65_58, r65_61, r65_62, r65_63, r65_66, r65_67, r65_68, r65_71, r65_72, r65_74, r65_77, r65_78, r65_81, r65_82, r65_85, r65_88, r65_89, r65_90, r65_93, r65_94, r65_95, r65_98, r65_100, r65_104, r65_107, r65_108, r65_109, r65_112, g6, c1', c2, tb_vl_some, tb_vl_none, tb_wF_some, nI_add, pk_mul, e_sub, e_div, tb_nmod, e_dec, e_le, e_lt, e_eq, e_eq0, e_lt0, e_0le, e_0lt, e_le0, if_true, if_false, not_true_eq_false, not_false_eq_true, ite_true, ite_false, Nat.reduceAdd, Nat.reduceMul, Nat.reduceLeDiff, Nat.reduceLT, Nat.reduceEqDiff, Nat.reduceSub, ↓reduceIte, Nat.reduceDiv, Nat.reduceMod]
        refine s_copyFrom hm hB6 hC6.2.1 (by omega) (by omega) (fun h7 hS7 hF7 => ?_)
        have hC7 := hC6.upS hS7 (fun q hq => hF7 q (by omega))
        simp (disch := first | assumption | omega | exact tb_sm0 | exact tb_sm1 _ | exact tb_sm2 _ _ | exact tb_sm3 _ _ _ | exact tb_sm4 _ _ _ _ | exact Or.inl rfl | exact Or.inr rfl | fail) only [r65_0, r65_1, r65_4, r65_7, r65_8, r65_9, r65_12, r65_15, r65_18, r65_20, r65_21, r65_24, r65_27, r65_28, r65_29, r65_30, r65_33, r65_34, r65_37, r65_40, r65_41, r65_44, r65_47, r65_48, r65_50, r65_51, r65_54, r65_55, r65_58, r65_61, r65_62, r65_63, r65_66, r65_67, r65_68, r65_71, r65_72, r65_74, r65_77, r65_78, r65_81, r65_82, r65_85, r65_88, r65_89, r65_90, r65_93, r65_94, r65_95, r65_98, r65_100, r65_104, r65_107, r65_108, r65_109, r65_112, tb_vl_some, tb_vl_none, tb_wF_some]
        refine tb_pf_ok hC7.1 (by simp) (fun h8 h81 h82 => ?_)
        refine tb_pf_ok h81 (by simp) (fun h9 h91 h92 => ?_)
        try simp (disch := first | assumption | omega | exact tb_sm0 | exact tb_sm1 _ | exact tb_sm2 _ _ | exact tb_sm3 _ _ _ | exact tb_sm4 _ _ _ _ | exact Or.inl rfl | exact Or.inr rfl | fail) only [r65_0, r65_1, r65_4, r65_7, r65_8, r65_9, r65_12, r65_15, r65_18, r65_20, r65_21, r65_24, r65_27, r65_28, r65_29, r65_30, r65_33, r65_34, r65_37, r65_40, r65_41, r65_44, r65_47, r65_48, r65_50, r65_51, r65_54, r65_55, r65_58, r65_61, r65_62, r65_63, r65_66, r65_67, r65_68, r65_71, r65_72, r65_74, r65_77, r65_78, r65_81, r65_82, r65_85, r65_88, r65_89, r65_90, r65_93, r65_94, r65_95, r65_98, r65_100, r65_104, r65_107, r65_108, r65_109, r65_112]
        have fr9 : ∀ q, q ≠ x → h9 q = h7 q := fun q hq => by rw [h92 q hq, h82 q hq]
        exact hQ2 c1 h9 (hC7.upC h91 fr9) (fun q hq => by rw [fr9 q (by omega), hF7 q (by omega), fr6 q hq])
    · have c1' : 0 ≤ z := Int32.not_lt.mp c1
      have := go (fun q => c1 q.1)
      simp (disch := first | assumption | omega | exact tb_sm0 | exact tb_sm1 _ | exact tb_sm2 _ _ | exact tb_sm3 _ _ _ | exact tb_sm4 _ _ _ _ | exact Or.inl rfl | exact Or.inr rfl | fail) only [r65_67, r65_68, c1', tb_vl_some, tb_vl_none, tb_wF_some, nI_add, pk_mul, e_sub, e_div, tb_nmod, e_dec, e_le, e_lt, e_eq, e_eq0, e_lt0, e_0le, e_0lt, e_le0, if_true, if_false, not_true_eq_false, not_false_eq_true, ite_true, ite_false, Nat.reduceAdd, Nat.reduceMul, Nat.reduceLeDiff, Nat.reduceLT, Nat.reduceEqDiff, Nat.reduceSub, ↓reduceIte, Nat.reduceDiv, Nat.reduceMod]
      exact this
theorem k_perform (hC : tb_CF h x s hs kn g) (hW : sp_W s) (hT : ∀ j, g.2.2.1 j < 65536) (h60 : g.2.2.2.1 ≤ 60) (hd : 7 ≤ d) (hQ : ∀ h', tb_CF h' x (ac_perf s hs kn g).2.1 (ac_perf s hs kn g).2.2.1 (ac_perf s hs kn g).2.2.2.1 (ac_perf s hs kn g).2.2.2.2 → tb_out h h' x (x + 198) → Q (some (.int (ac_perf s hs kn g).1)) h' nx) :
    tb_wp E d 65 0 [.ref x, .long 0, .long 0, .long 0] [] h nx 0 0 Q := by
  have g0 := hC.1.f
  obtain ⟨r, v, hP, hv⟩ := hC.2.2.2.2.2.2
  have oP := hP.O
  simp (disch := first | assumption | omega | exact tb_sm0 | exact tb_sm1 _ | exact tb_sm2 _ _ | exact tb_sm3 _ _ _ | exact tb_sm4 _ _ _ _ | exact Or.inl rfl | exact Or.inr rfl | fail) only [r65_0, r65_1, r65_4, g0, tb_vl_some, tb_vl_none, tb_wF_some]
  refine o_readAll hP hv hT h60 (by omega) (fun h2 v2 hP2 hv2 hF2 => ?_)
  have hC2 : tb_CF h2 x s hs kn g := hC.upX (tx' := g.2.2.1) (le' := g.2.2.2.1) ⟨_, v2, hP2, hv2⟩ (fun q hq => hF2 q (by omega))
  have fr2 : tb_out h h2 x (x + 198) := fun q hq => hF2 q (by omega)
  have g2 := hC2.1.f
  have gp2 := hP2.g
  unfold ac_perf at hQ
  dsimp only at gp2
  by_cases c : (ps_go g.2.2.1 g.2.2.2.1 61 0 0).1 = true
  · have e0 : ps_w (ps_go g.2.2.1 g.2.2.2.1 61 0 0).1 = 0 := by rw [c]; rfl
    rw [if_pos c] at hQ
    obtain ⟨bs, hb⟩ := hC2.2.2.1
    have oB := hb.1.O
    simp (disch := first | assumption | omega | exact tb_sm0 | exact tb_sm1 _ | exact tb_sm2 _ _ | exact tb_sm3 _ _ _ | exact tb_sm4 _ _ _ _ | exact Or.inl rfl | exact Or.inr rfl | fail) only [r65_0, r65_1, r65_4, r65_7, r65_8, r65_9, r65_12, r65_15, r65_18, r65_20, r65_21, r65_24, r65_27, r65_28, r65_29, r65_30, r65_33, r65_34, r65_37, r65_41, r65_44, r65_47, r65_48, r65_50, r65_51, r65_54, r65_55, r65_58, r65_61, r65_62, r65_63, r65_66, r65_67, r65_68, r65_71, r65_72, r65_74, r65_77, r65_78, r65_81, r65_82, r65_85, r65_88, r65_89, r65_90, r65_93, r65_94, r65_95, r65_98, r65_100, r65_101, r65_104, r65_107, r65_108, r65_109, r65_112, g2, gp2, e0, tb_vl_some, tb_vl_none, tb_wF_some, nI_add, pk_mul, e_sub, e_div, tb_nmod, e_dec, e_le, e_lt, e_eq, e_eq0, e_lt0, e_0le, e_0lt, e_le0, if_true, if_false, not_true_eq_false, not_false_eq_true, ite_true, ite_false, Nat.reduceAdd, Nat.reduceMul, Nat.reduceLeDiff, Nat.reduceLT, Nat.reduceEqDiff, Nat.reduceSub, ↓reduceIte, Nat.reduceDiv, Nat.reduceMod]
    refine s_copyFrom hW.1.2.2.2.2 hC2.2.1 hb (by omega) (by omega) (fun h3 hS3 hF3 => ?_)
    have hC3 := hC2.upB hS3 (fun q hq => hF3 q (by omega))
    have hP3 := hP2.fr (h' := h3) (fun q q1 q2 => hF3 q (by omega))
    have g3 := hC3.1.f
    have oP3 := hP3.O
    simp (disch := first | assumption | omega | exact tb_sm0 | exact tb_sm1 _ | exact tb_sm2 _ _ | exact tb_sm3 _ _ _ | exact tb_sm4 _ _ _ _ | exact Or.inl rfl | exact Or.inr rfl | fail) only [r65_40, r65_41, r65_44, g3, tb_vl_some, tb_vl_none, tb_wF_some, Nat.reduceAdd]
    refine o_readFromStart hP3 (fun h4 hP4 hF4 => ?_)
    have hC4 : tb_CF h4 x s hs kn g := hC3.upX (tx' := g.2.2.1) (le' := g.2.2.2.1) ⟨_, v2, hP4, hv2⟩ (fun q hq => hF4 q (by omega))
    have hB4 := hS3.fr (h' := h4) (fun q q1 q2 => hF4 q (by omega))
    have fr4 : tb_out h h4 x (x + 198) := fun q hq => by rw [hF4 q (by omega), hF3 q (by omega), fr2 q hq]
    have hcnt := ps_go_cnt 61 0 0 c
    simp (disch := first | assumption | omega | exact tb_sm0 | exact tb_sm1 _ | exact tb_sm2 _ _ | exact tb_sm3 _ _ _ | exact tb_sm4 _ _ _ _ | exact Or.inl rfl | exact Or.inr rfl | fail) only [r65_47, r65_48, tb_vl_some, tb_vl_none, tb_wF_some, Nat.reduceAdd]
    refine k_perf_l hW.1.2.2.2.2 hT h60 (by omega) (by omega) 61 0 0 h4 s v2 _ (by omega) (by omega) c rfl hW hC4 hB4 hP4 hv2 (fun a1 a2 h5 a3 a4 => ?_) (fun a1 h5 a3 a4 => ?_)
    · rw [if_neg a1] at hQ
      rw [← a2]
      exact hQ h5 a3 (fr4.tr a4)
    · rw [if_pos a1] at hQ
      exact hQ h5 a3 (fr4.tr a4)
  · have e0 : ps_w (ps_go g.2.2.1 g.2.2.2.1 61 0 0).1 = 1 := by unfold ps_w; rw [if_neg c]
    rw [if_neg c] at hQ
    simp (disch := first | assumption | omega | exact tb_sm0 | exact tb_sm1 _ | exact tb_sm2 _ _ | exact tb_sm3 _ _ _ | exact tb_sm4 _ _ _ _ | exact Or.inl rfl | exact Or.inr rfl | fail) only [r65_0, r65_1, r65_4, r65_7, r65_8, r65_9, r65_12, r65_15, r65_18, r65_20, r65_21, r65_24, r65_27, r65_28, r65_29, r65_30, r65_33, r65_34, r65_37, r65_41, r65_44, r65_47, r65_48, r65_50, r65_51, r65_54, r65_55, r65_58, r65_61, r65_62, r65_63, r65_66, r65_67, r65_68, r65_71, r65_72, r65_74, r65_77, r65_78, r65_81, r65_82, r65_85, r65_88, r65_89, r65_90, r65_93, r65_94, r65_95, r65_98, r65_100, r65_101, r65_104, r65_107, r65_108, r65_109, r65_112, g2, gp2, e0, tb_vl_some, tb_vl_none, tb_wF_some, nI_add, pk_mul, e_sub, e_div, tb_nmod, e_dec, e_le, e_lt, e_eq, e_eq0, e_lt0, e_0le, e_0lt, e_le0, if_true, if_false, not_true_eq_false, not_false_eq_true, ite_true, ite_false, Nat.reduceAdd, Nat.reduceMul, Nat.reduceLeDiff, Nat.reduceLT, Nat.reduceEqDiff, Nat.reduceSub, ↓reduceIte, Nat.reduceDiv, Nat.reduceMod]
    exact hQ h2 hC2 fr2
end C13
