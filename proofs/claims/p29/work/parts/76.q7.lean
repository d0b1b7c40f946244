/-! THE LAW: its loop, its run -/
section QL
variable {E : tb_env} {d : Nat} {nx bc bs : Nat} {Q : Option Value → tb_heap → Nat → Prop} {x sb L t : Nat} {xs : Nat → Int32}
theorem q_known {h : tb_heap} {kn T : Nat} {s : Nat → Nat} {hs : Nat → Nat → Nat} (hI : lw_I h x T s hs kn) (hd : 5 ≤ d) : tb_wp E d 64 0 [.ref x, .int (nI 10)] [] h nx 0 0 Q = Q (some (.int (nI kn))) h nx := q_count hI.1 hI.2.1.1.1 hd (by decide)
theorem lw_loop (hd : 10 ≤ d) (ht : t ≤ 32) (hQ : ∀ h', Q (some (.int (nI 1))) h' nx) (n : Nat) : ∀ (i : Nat) (h : tb_heap) (s : Nat → Nat) (hs : Nat → Nat → Nat) (kn : Nat) (y5 y6 y7 y8 : Value), i + n = t → lw_I h x (2 * i) s hs kn → lo_B E h x sb L xs → tb_wp E d 80 61 [.ref sb, .ref x, .int (nI 1), .int (nI t), .int (nI i), y5, y6, y7, y8] [] h nx bc bs Q := by
  induction n with
  | zero =>
    intro i h s hs kn y5 y6 y7 y8 hi hI hB
    have e : i = t := by omega
    subst e
    have le : i ≤ i := Nat.le_refl _
    simp (disch := first | assumption | omega | exact tb_sm0 | exact tb_sm1 _ | exact tb_sm2 _ _ | exact tb_sm3 _ _ _ | exact tb_sm4 _ _ _ _ | exact Or.inl rfl | exact Or.inr rfl | fail) only [r80_61, r80_63, r80_64, r80_217, r80_218, le, tb_vl_some, tb_vl_none, tb_wF_some, nI_add, pk_mul, e_sub, e_div, tb_nmod, e_dec, e_le, e_lt, e_eq, e_eq0, e_lt0, e_0le, e_0lt, e_le0, if_true, if_false, not_true_eq_false, not_false_eq_true, ite_true, ite_false, Nat.reduceAdd, Nat.reduceMul, Nat.reduceLeDiff, Nat.reduceLT, Nat.reduceEqDiff, Nat.reduceSub, ↓reduceIte, Nat.reduceDiv, Nat.reduceMod]
    exact hQ h
  | succ n ih =>
    intro i h s hs kn y5 y6 y7 y8 hi hI hB
    have oX := hI.1.1.O
    have hi' : ¬ t ≤ i := by omega
    have four : ¬ nI 4 = 0 := by decide
    have qc : ∀ {k : Nat} (hk : k < 1000) {Q' : Option Value → tb_heap → Nat → Prop}, tb_wp E (d - 1) 72 0 [.ref sb, .int (nI k)] [] h nx 0 0 Q' = Q' (some (.int (lw_cell L xs k))) h nx := fun hk => l_cell hB hk
    have low : ∀ {v : Int32} {n : Nat} (h0 : 0 < n) (hn : n < 2 ^ 31) {Q' : Option Value → tb_heap → Nat → Prop}, tb_wp E (d - 1) 73 0 [.int v, .int (nI n)] [] h nx 0 0 Q' = Q' (some (.int (nI (lw_lo v n)))) h nx := fun h0 hn => l_low h0 hn
    have qk : ∀ {Q' : Option Value → tb_heap → Nat → Prop}, tb_wp E (d - 1) 64 0 [.ref x, .int (nI 10)] [] h nx 0 0 Q' = Q' (some (.int (nI kn))) h nx := q_known hI (by omega)
    simp (disch := first | assumption | omega | exact tb_sm0 | exact tb_sm1 _ | exact tb_sm2 _ _ | exact tb_sm3 _ _ _ | exact tb_sm4 _ _ _ _ | exact Or.inl rfl | exact Or.inr rfl | fail) only [r80_61, r80_63, r80_64, r80_67, r80_68, r80_71, r80_72, r80_73, r80_75, r80_76, r80_79, r80_81, r80_84, r80_86, r80_87, r80_89, r80_92, r80_94, r80_95, r80_97, r80_98, r80_99, r80_101, r80_102, r80_103, r80_104, r80_107, r80_108, r80_109, r80_111, r80_112, r80_113, r80_114, r80_117, qc, low, qk, hi', nI_add, tb_vl_some, tb_vl_none, tb_wF_some, nI_add, pk_mul, e_sub, e_div, tb_nmod, e_dec, e_le, e_lt, e_eq, e_eq0, e_lt0, e_0le, e_0lt, e_le0, if_true, if_false, not_true_eq_false, not_false_eq_true, ite_true, ite_false, Nat.reduceAdd, Nat.reduceMul, Nat.reduceLeDiff, Nat.reduceLT, Nat.reduceEqDiff, Nat.reduceSub, ↓reduceIte, Nat.reduceDiv, Nat.reduceMod]
    have hk14 := lo_lt (lw_cell L xs (3 * i)) (show 0 < 14 by decide)
    generalize lw_lo (lw_cell L xs (3 * i)) 14 = kind at hk14 ⊢
    refine l_act hI hB.1 hk14 (by omega) (fun r h2 s2 hs2 kn2 hI2 hF2 hkn => ?_)
    have o2 := hI2.1.1.O
    have hB2 := hB.fr (fun q hq => hF2 q (Or.inl hq))
    have n4 := CF_kn hI2.1
    have n3 := CF_kn hI.1
    -- behind the due: what is known, all that is told
    have k162 : ∀ (due : Int32), due = nI kn2 → ∀ y5 y6 y7 : Value, tb_wp E d 80 162 [.ref sb, .ref x, .int (nI 1), .int (nI t), .int (nI i), y5, y6, y7, .int due] [] h2 nx bc bs Q := by
      rintro due rfl y5 y6 y7
      have qk2 : ∀ {Q' : Option Value → tb_heap → Nat → Prop}, tb_wp E (d - 1) 64 0 [.ref x, .int (nI 10)] [] h2 nx 0 0 Q' = Q' (some (.int (nI kn2))) h2 nx := q_known hI2 (by omega)
      simp (disch := first | assumption | omega | exact tb_sm0 | exact tb_sm1 _ | exact tb_sm2 _ _ | exact tb_sm3 _ _ _ | exact tb_sm4 _ _ _ _ | exact Or.inl rfl | exact Or.inr rfl | fail) only [r80_162, r80_163, r80_165, r80_168, r80_170, r80_173, r80_174, qk2, eq_self, tb_vl_some, tb_vl_none, tb_wF_some, nI_add, pk_mul, e_sub, e_div, tb_nmod, e_dec, e_le, e_lt, e_eq, e_eq0, e_lt0, e_0le, e_0lt, e_le0, if_true, if_false, not_true_eq_false, not_false_eq_true, ite_true, ite_false, Nat.reduceAdd, Nat.reduceMul, Nat.reduceLeDiff, Nat.reduceLT, Nat.reduceEqDiff, Nat.reduceSub, ↓reduceIte, Nat.reduceDiv, Nat.reduceMod]
      refine lz_holds hI2.1 hI2.2.1 (by omega) (by omega) (fun h3 hC3 hF3 => ?_)
      have o3 := hC3.1.O
      have hB3 := hB2.fr (fun q hq => hF3 q (Or.inl hq))
      have hI3 : lw_I h3 x (2 * i + 1) s2 hs2 kn2 := ⟨hC3, hI2.2⟩
      have qc3 : ∀ {k : Nat} (hk : k < 1000) {Q' : Option Value → tb_heap → Nat → Prop}, tb_wp E (d - 1) 72 0 [.ref sb, .int (nI k)] [] h3 nx 0 0 Q' = Q' (some (.int (lw_cell L xs k))) h3 nx := fun hk => l_cell hB3 hk
      have nxt : ∀ (h4 : tb_heap) (hs4 : Nat → Nat → Nat) (kn4 : Nat), lw_I h4 x (2 * (i + 1)) s2 hs4 kn4 → lo_B E h4 x sb L xs → tb_wp E d 80 205 [.ref sb, .ref x, .int (nI 1), .int (nI t), .int (nI i), y5, y6, y7, .int (nI kn2)] [] h4 nx bc bs Q := by
        intro h4 hs4 kn4 hI4 hB4
        simp (disch := first | assumption | omega | exact tb_sm0 | exact tb_sm1 _ | exact tb_sm2 _ _ | exact tb_sm3 _ _ _ | exact tb_sm4 _ _ _ _ | exact Or.inl rfl | exact Or.inr rfl | fail) only [r80_205, r80_206, r80_209, r80_210, r80_211, r80_214, nI_add, tb_vl_some, tb_vl_none, tb_wF_some, nI_add, pk_mul, e_sub, e_div, tb_nmod, e_dec, e_le, e_lt, e_eq, e_eq0, e_lt0, e_0le, e_0lt, e_le0, if_true, if_false, not_true_eq_false, not_false_eq_true, ite_true, ite_false, Nat.reduceAdd, Nat.reduceMul, Nat.reduceLeDiff, Nat.reduceLT, Nat.reduceEqDiff, Nat.reduceSub, ↓reduceIte, Nat.reduceDiv, Nat.reduceMod]
        exact ih (i + 1) h4 s2 hs4 kn4 _ _ _ _ (by omega) hI4 hB4
      by_cases m3 : i % 4 = 3
      · simp (disch := first | assumption | omega | exact tb_sm0 | exact tb_sm1 _ | exact tb_sm2 _ _ | exact tb_sm3 _ _ _ | exact tb_sm4 _ _ _ _ | exact Or.inl rfl | exact Or.inr rfl | fail) only [r80_177, r80_180, r80_182, r80_183, r80_184, r80_185, r80_188, r80_189, r80_190, r80_191, r80_193, r80_194, r80_195, r80_196, r80_199, qc3, m3, nI_add, tb_vl_some, tb_vl_none, tb_wF_some, nI_add, pk_mul, e_sub, e_div, tb_nmod, e_dec, e_le, e_lt, e_eq, e_eq0, e_lt0, e_0le, e_0lt, e_le0, if_true, if_false, not_true_eq_false, not_false_eq_true, ite_true, ite_false, Nat.reduceAdd, Nat.reduceMul, Nat.reduceLeDiff, Nat.reduceLT, Nat.reduceEqDiff, Nat.reduceSub, ↓reduceIte, Nat.reduceDiv, Nat.reduceMod]
        refine l_tries hI3 (by omega) (by omega) (fun h4 hs4 kn4 hI4 hF4 => ?_)
        simp (disch := first | assumption | omega | exact tb_sm0 | exact tb_sm1 _ | exact tb_sm2 _ _ | exact tb_sm3 _ _ _ | exact tb_sm4 _ _ _ _ | exact Or.inl rfl | exact Or.inr rfl | fail) only [r80_202, tb_vl_some, tb_vl_none, tb_wF_some, nI_add, pk_mul, e_sub, e_div, tb_nmod, e_dec, e_le, e_lt, e_eq, e_eq0, e_lt0, e_0le, e_0lt, e_le0, if_true, if_false, not_true_eq_false, not_false_eq_true, ite_true, ite_false, Nat.reduceAdd, Nat.reduceMul, Nat.reduceLeDiff, Nat.reduceLT, Nat.reduceEqDiff, Nat.reduceSub, ↓reduceIte, Nat.reduceDiv, Nat.reduceMod]
        exact nxt h4 hs4 kn4 hI4 (hB3.fr (fun q hq => hF4 q (Or.inl hq)))
      · simp (disch := first | assumption | omega | exact tb_sm0 | exact tb_sm1 _ | exact tb_sm2 _ _ | exact tb_sm3 _ _ _ | exact tb_sm4 _ _ _ _ | exact Or.inl rfl | exact Or.inr rfl | fail) only [r80_177, r80_180, r80_182, r80_183, r80_184, r80_185, m3, tb_vl_some, tb_vl_none, tb_wF_some, nI_add, pk_mul, e_sub, e_div, tb_nmod, e_dec, e_le, e_lt, e_eq, e_eq0, e_lt0, e_0le, e_0lt, e_le0, if_true, if_false, not_true_eq_false, not_false_eq_true, ite_true, ite_false, Nat.reduceAdd, Nat.reduceMul, Nat.reduceLeDiff, Nat.reduceLT, Nat.reduceEqDiff, Nat.reduceSub, ↓reduceIte, Nat.reduceDiv, Nat.reduceMod]
        exact nxt h3 hs2 kn2 ⟨hC3, hI2.2.1.le (by omega), fun j hj => (hI2.2.2 j hj).le (by omega)⟩ hB3
    by_cases r0 : r < 0
    · have r0' : ¬ 0 ≤ r := Int32.not_le.mpr r0
      rw [if_pos r0] at hkn
      simp (disch := first | assumption | omega | exact tb_sm0 | exact tb_sm1 _ | exact tb_sm2 _ _ | exact tb_sm3 _ _ _ | exact tb_sm4 _ _ _ _ | exact Or.inl rfl | exact Or.inr rfl | fail) only [r80_120, r80_122, r80_124, r80_127, r80_129, r80_160, r0', tb_vl_some, tb_vl_none, tb_wF_some, nI_add, pk_mul, e_sub, e_div, tb_nmod, e_dec, e_le, e_lt, e_eq, e_eq0, e_lt0, e_0le, e_0lt, e_le0, if_true, if_false, not_true_eq_false, not_false_eq_true, ite_true, ite_false, Nat.reduceAdd, Nat.reduceMul, Nat.reduceLeDiff, Nat.reduceLT, Nat.reduceEqDiff, Nat.reduceSub, ↓reduceIte, Nat.reduceDiv, Nat.reduceMod]
      exact k162 _ hkn.symm _ _ _
    · have r0' : 0 ≤ r := Int32.not_lt.mp r0
      rw [if_neg r0] at hkn
      by_cases k13 : kind = 13
      · rw [if_pos k13] at hkn
        simp (disch := first | assumption | omega | exact tb_sm0 | exact tb_sm1 _ | exact tb_sm2 _ _ | exact tb_sm3 _ _ _ | exact tb_sm4 _ _ _ _ | exact Or.inl rfl | exact Or.inr rfl | fail) only [r80_120, r80_122, r80_124, r80_132, r80_134, r80_136, r80_139, r80_141, r80_142, r80_143, r80_160, r0', k13, eq_self, e_eq, e_eq0, e_lt0, e_0le, not_true_eq_false, not_false_eq_true, if_true, if_false, ↓reduceIte, tb_vl_some, tb_vl_none, tb_wF_some]
        exact k162 _ hkn.symm _ _ _
      · rw [if_neg k13] at hkn
        by_cases kn4 : kn = 4
        · rw [if_pos kn4] at hkn
          simp (disch := first | assumption | omega | exact tb_sm0 | exact tb_sm1 _ | exact tb_sm2 _ _ | exact tb_sm3 _ _ _ | exact tb_sm4 _ _ _ _ | exact Or.inl rfl | exact Or.inr rfl | fail) only [r80_120, r80_122, r80_124, r80_132, r80_134, r80_136, r80_139, r80_141, r80_142, r80_143, r80_146, r80_148, r80_149, r80_152, r80_153, r80_156, r80_158, r80_159, r80_160, r0', k13, kn4, eq_self, tb_vl_some, tb_vl_none, tb_wF_some, nI_add, pk_mul, e_sub, e_div, tb_nmod, e_dec, e_le, e_lt, e_eq, e_eq0, e_lt0, e_0le, e_0lt, e_le0, if_true, if_false, not_true_eq_false, not_false_eq_true, ite_true, ite_false, Nat.reduceAdd, Nat.reduceMul, Nat.reduceLeDiff, Nat.reduceLT, Nat.reduceEqDiff, Nat.reduceSub, ↓reduceIte, Nat.reduceDiv, Nat.reduceMod]
          exact k162 _ hkn.symm _ _ _
        · rw [if_neg kn4] at hkn
          simp (disch := first | assumption | omega | exact tb_sm0 | exact tb_sm1 _ | exact tb_sm2 _ _ | exact tb_sm3 _ _ _ | exact tb_sm4 _ _ _ _ | exact Or.inl rfl | exact Or.inr rfl | fail) only [r80_120, r80_122, r80_124, r80_132, r80_134, r80_136, r80_139, r80_141, r80_142, r80_143, r80_146, r80_148, r80_149, r80_152, r80_153, r80_156, r80_158, r80_159, r80_160, r0', k13, kn4, eq_self, nI_add, tb_vl_some, tb_vl_none, tb_wF_some, nI_add, pk_mul, e_sub, e_div, tb_nmod, e_dec, e_le, e_lt, e_eq, e_eq0, e_lt0, e_0le, e_0lt, e_le0, if_true, if_false, not_true_eq_false, not_false_eq_true, ite_true, ite_false, Nat.reduceAdd, Nat.reduceMul, Nat.reduceLeDiff, Nat.reduceLT, Nat.reduceEqDiff, Nat.reduceSub, ↓reduceIte, Nat.reduceDiv, Nat.reduceMod]
          exact k162 _ hkn.symm _ _ _
end QL
theorem tb_main : tb_goal := by
  intro E b L xs hL hlo hE hst
  have lo : ∀ k, k < 4 → E.1 k < E.2.2 := by
    intro k hk
    obtain ⟨s0, s1, s2, s3⟩ := hst
    rcases (by omega : k = 0 ∨ k = 1 ∨ k = 2 ∨ k = 3) with rfl | rfl | rfl | rfl
    · exact hlo _ _ s0
    · exact hlo _ _ s1
    · exact hlo _ _ s2
    · exact hlo _ _ s3
  have hb := hlo _ _ hE
  have run : tb_wp E 11 80 0 [.ref b, .long 0, .long 0, .long 0, .long 0, .long 0, .long 0, .long 0, .long 0] [] (fun _ => none) E.2.2 600000 7302250 (fun v _ _ => v = some (.int (nI 1))) := by
    simp (disch := first | assumption | omega | exact tb_sm0 | exact tb_sm1 _ | exact tb_sm2 _ _ | exact tb_sm3 _ _ _ | exact tb_sm4 _ _ _ _ | exact Or.inl rfl | exact Or.inr rfl | fail) only [r80_0, r80_3i, r80_3, r80_4, Nat.reduceSub]
    refine class_init (hs := fun _ _ => 0) tb_up_s ⟨⟨hst, fun k hk => tb_up_n (by have := lo k hk; omega)⟩, lo⟩ (by decide) (fun h1 hC1 hF1 => ?_)
    have f1 : ∀ q, q < E.2.2 → h1 q = none := fun q hq => (hF1 q (Or.inl hq)).trans (tb_up_n (by omega))
    have o1 := hC1.1.O
    simp (disch := first | assumption | omega | exact tb_sm0 | exact tb_sm1 _ | exact tb_sm2 _ _ | exact tb_sm3 _ _ _ | exact tb_sm4 _ _ _ _ | exact Or.inl rfl | exact Or.inr rfl | fail) only [r80_7, r80_8, r80_9, tb_vl_some, tb_vl_none, tb_wF_some, Nat.reduceAdd, Nat.reduceSub]
    refine lz_holds hC1 T_0 (by decide) (by decide) (fun h2 hC2 hF2 => ?_)
    have o2 := hC2.1.O
    have f2 : ∀ q, q < E.2.2 → h2 q = none := fun q hq => (hF2 q (Or.inl hq)).trans (f1 q hq)
    have hB2 : lo_B E h2 E.2.2 b L xs := ⟨⟨⟨hst, fun k hk => f2 _ (lo k hk)⟩, lo⟩, hb, f2 _ hb, hE, hL⟩
    have u0 : ∀ {nx : Nat} {Q' : Option Value → tb_heap → Nat → Prop}, tb_wp E 10 51 0 [.ref E.2.2] [] h2 nx 0 0 Q' = Q' (some (.int (-5))) h2 nx := k_undo_0 hC2
    have v0 : ∀ {nx : Nat} {Q' : Option Value → tb_heap → Nat → Prop}, tb_wp E 10 52 0 [.ref E.2.2] [] h2 nx 0 0 Q' = Q' (some (.int (-5))) h2 nx := k_restore_0 hC2 rfl
    have d3 : L / 3 ≤ 86 := by omega
    have three : ¬ nI 3 = 0 := by decide
    simp (disch := first | assumption | omega | exact tb_sm0 | exact tb_sm1 _ | exact tb_sm2 _ _ | exact tb_sm3 _ _ _ | exact tb_sm4 _ _ _ _ | exact Or.inl rfl | exact Or.inr rfl | fail) only [r80_12, r80_15, r80_16, r80_19, r80_21, r80_24, r80_25, r80_28, r80_30, r80_33, r80_34, r80_37, r80_38, r80_39, r80_40, r80_41, r80_42, r80_43, r80_45, u0, v0, hB2.ra, eq_self, tb_vl_some, tb_vl_none, tb_wF_some, nI_add, pk_mul, e_sub, e_div, tb_nmod, e_dec, e_le, e_lt, e_eq, e_eq0, e_lt0, e_0le, e_0lt, e_le0, if_true, if_false, not_true_eq_false, not_false_eq_true, ite_true, ite_false, Nat.reduceAdd, Nat.reduceMul, Nat.reduceLeDiff, Nat.reduceLT, Nat.reduceEqDiff, Nat.reduceSub, ↓reduceIte, Nat.reduceDiv, Nat.reduceMod]
    by_cases c : L / 3 ≤ 32
    · simp (disch := first | assumption | omega | exact tb_sm0 | exact tb_sm1 _ | exact tb_sm2 _ _ | exact tb_sm3 _ _ _ | exact tb_sm4 _ _ _ _ | exact Or.inl rfl | exact Or.inr rfl | fail) only [c, r80_53, r80_54, r80_55, r80_56, r80_57, r80_58, r80_59, hB2.ra, tb_vl_some, tb_vl_none, tb_wF_some, nI_add, pk_mul, e_sub, e_div, tb_nmod, e_dec, e_le, e_lt, e_eq, e_eq0, e_lt0, e_0le, e_0lt, e_le0, if_true, if_false, not_true_eq_false, not_false_eq_true, ite_true, ite_false, Nat.reduceAdd, Nat.reduceMul, Nat.reduceLeDiff, Nat.reduceLT, Nat.reduceEqDiff, Nat.reduceSub, ↓reduceIte, Nat.reduceDiv, Nat.reduceMod]
      exact lw_loop (L := L) (xs := xs) (by decide) c (fun _ => rfl) (L / 3) 0 h2 sp_0 (fun _ _ => 0) 0 _ _ _ _ (by omega) ⟨hC2, T_0, fun i hi => by omega⟩ hB2
    · simp (disch := first | assumption | omega | exact tb_sm0 | exact tb_sm1 _ | exact tb_sm2 _ _ | exact tb_sm3 _ _ _ | exact tb_sm4 _ _ _ _ | exact Or.inl rfl | exact Or.inr rfl | fail) only [c, r80_48, r80_50, r80_53, r80_54, r80_55, r80_56, r80_57, r80_58, r80_59, hB2.ra, tb_vl_some, tb_vl_none, tb_wF_some, nI_add, pk_mul, e_sub, e_div, tb_nmod, e_dec, e_le, e_lt, e_eq, e_eq0, e_lt0, e_0le, e_0lt, e_le0, if_true, if_false, not_true_eq_false, not_false_eq_true, ite_true, ite_false, Nat.reduceAdd, Nat.reduceMul, Nat.reduceLeDiff, Nat.reduceLT, Nat.reduceEqDiff, Nat.reduceSub, ↓reduceIte, Nat.reduceDiv, Nat.reduceMod]
      exact lw_loop (L := L) (xs := xs) (by decide) (Nat.le_refl 32) (fun _ => rfl) 32 0 h2 sp_0 (fun _ _ => 0) 0 _ _ _ _ (by omega) ⟨hC2, T_0, fun i hi => by omega⟩ hB2
  obtain ⟨f, z, h1, h2⟩ := run
  refine ⟨f, z.2.1, z.2.2, ?_⟩
  have e : z = (some (.int 1), z.2.1, z.2.2) := Prod.ext h2 rfl
  rw [← e]
  exact h1
