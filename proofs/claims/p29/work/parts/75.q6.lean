/-! THE LAW: the tilt that is tried, its ticks, its undoing -/
section QU
variable {E : tb_env} {d : Nat} {h : tb_heap} {nx : Nat} {Q : Option Value → tb_heap → Nat → Prop} {x kn T : Nat} {s v : Nat → Nat} {hs : Nat → Nat → Nat} {y r : Int32} {b a : Nat}
def lw_K (h : tb_heap) (x T : Nat) (s v : Nat → Nat) (hs : Nat → Nat → Nat) (kn : Nat) (r : Int32) : Prop := tb_CF h x v hs kn sp_g0 ∧ (∀ i, i < kn → pp_T T (hs i)) ∧ pp_T T s ∧ pp_T T v ∧ ((r = -5 ∧ v = s) ∨ ∃ t k, t ≤ 90 ∧ r = nI t ∧ kn = k + 1 ∧ hs k = s)
theorem lw_K.pu {h' : tb_heap} {k2 : Nat} (hK : lw_K h x T s v hs kn r) (e : (sp_rec hs kn v).2 = k2 + 1) (hC : tb_CF h' x v (sp_rec hs kn v).1 k2 sp_g0) : lw_K h' x T s v (sp_rec hs kn v).1 k2 r := by
  obtain ⟨k1, kH, kS, kV, kc⟩ := hK
  have h4 := CF_kn k1
  refine ⟨hC, fun i hi => rec_P kH kV i (by omega), kS, kV, ?_⟩
  rcases kc with c | ⟨t, k, ht, hr, hk, hh⟩
  · exact Or.inl c
  · subst hk
    obtain ⟨k3, e3, e4⟩ := rec_keep h4 hh e
    exact Or.inr ⟨t, k3, ht, hr, e3, e4⟩
theorem l_tr2 {z4 z5 z6 z7 z8 z9 z11 : Value} (hK : lw_K h x T s v hs kn r) (hb : b < 5) (ha : a ≤ 90) (hd : 6 ≤ d) (hQ : ∀ h' hs' kn', lw_I h' x T s hs' kn' → tb_out h h' x (x + 198) → Q (some (.int (nI 1))) h' nx) :
    tb_wp E d 79 319 [.ref x, .int y, .int (nI b), .int (nI a), z4, z5, z6, z7, z8, z9, .int (nI (sp_all s b)), z11, .int (nI 1), .int r, .long 0, .long 0, .long 0, .long 0] [] h nx 0 0 Q := by
  obtain ⟨k1, kH, kS, kV, kc⟩ := hK
  have oX := k1.1.O
  have k338 : ∀ (h2 : tb_heap) (hs2 : Nat → Nat → Nat) (kn2 : Nat), lw_I h2 x T s hs2 kn2 → tb_out h h2 x (x + 198) → tb_wp E d 79 338 [.ref x, .int y, .int (nI b), .int (nI a), z4, z5, z6, z7, z8, z9, .int (nI (sp_all s b)), z11, .int (nI 1), .int r, .long 0, .long 0, .long 0, .long 0] [] h2 nx 0 0 Q := by
    intro h2 hs2 kn2 hI2 hF2
    have oX2 := hI2.1.1.O
    have qb : ∀ {Q' : Option Value → tb_heap → Nat → Prop}, tb_wp E (d - 1) 54 0 [.ref x, .int (nI b), .int (nI 1), .long 0] [] h2 nx 0 0 Q' = Q' (some (.int (nI (sp_all s b)))) h2 nx := q_board hI2.1 kS.1.1 (by omega) hb (by decide)
    simp (disch := first | assumption | omega | exact tb_sm0 | exact tb_sm1 _ | exact tb_sm2 _ _ | exact tb_sm3 _ _ _ | exact tb_sm4 _ _ _ _ | exact Or.inl rfl | exact Or.inr rfl | fail) only [r79_338, r79_339, r79_340, r79_341, r79_344, r79_346, r79_349, r79_350, r79_353, r79_354, qb, eq_self, tb_vl_some, tb_vl_none, tb_wF_some, nI_add, pk_mul, e_sub, e_div, tb_nmod, e_dec, e_le, e_lt, e_eq, e_eq0, e_lt0, e_0le, e_0lt, e_le0, if_true, if_false, not_true_eq_false, not_false_eq_true, ite_true, ite_false, Nat.reduceAdd, Nat.reduceMul, Nat.reduceLeDiff, Nat.reduceLT, Nat.reduceEqDiff, Nat.reduceSub, ↓reduceIte, Nat.reduceDiv, Nat.reduceMod]
    exact l_tr3 hI2 ha hd (hQ h2 hs2 kn2 hI2 hF2)
  rcases kc with ⟨rfl, rfl⟩ | ⟨t, k, ht, rfl, rfl, hh⟩
  · simp (disch := first | assumption | omega | exact tb_sm0 | exact tb_sm1 _ | exact tb_sm2 _ _ | exact tb_sm3 _ _ _ | exact tb_sm4 _ _ _ _ | exact Or.inl rfl | exact Or.inr rfl | fail) only [r79_319, r79_321, r79_324, r79_326, r79_328, eq_self, tb_vl_some, tb_vl_none, tb_wF_some, nI_add, pk_mul, e_sub, e_div, tb_nmod, e_dec, e_le, e_lt, e_eq, e_eq0, e_lt0, e_0le, e_0lt, e_le0, if_true, if_false, not_true_eq_false, not_false_eq_true, ite_true, ite_false, Nat.reduceAdd, Nat.reduceMul, Nat.reduceLeDiff, Nat.reduceLT, Nat.reduceEqDiff, Nat.reduceSub, ↓reduceIte, Nat.reduceDiv, Nat.reduceMod]
    exact k338 h hs kn ⟨k1, kS, kH⟩ tb_out.rf
  · have n5 := e_n5 (show t < 2 ^ 31 by omega)
    have h4 := CF_kn k1
    simp (disch := first | assumption | omega | exact tb_sm0 | exact tb_sm1 _ | exact tb_sm2 _ _ | exact tb_sm3 _ _ _ | exact tb_sm4 _ _ _ _ | exact Or.inl rfl | exact Or.inr rfl | fail) only [r79_319, r79_321, r79_324, r79_326, r79_328, r79_331, r79_332, n5, tb_vl_some, tb_vl_none, tb_wF_some, nI_add, pk_mul, e_sub, e_div, tb_nmod, e_dec, e_le, e_lt, e_eq, e_eq0, e_lt0, e_0le, e_0lt, e_le0, if_true, if_false, not_true_eq_false, not_false_eq_true, ite_true, ite_false, Nat.reduceAdd, Nat.reduceMul, Nat.reduceLeDiff, Nat.reduceLT, Nat.reduceEqDiff, Nat.reduceSub, ↓reduceIte, Nat.reduceDiv, Nat.reduceMod]
    refine k_undo k1 (by rw [hh]; exact kS.1.1.2.2.2.2) (by omega) (fun h2 hC2 hF2 => ?_)
    simp (disch := first | assumption | omega | exact tb_sm0 | exact tb_sm1 _ | exact tb_sm2 _ _ | exact tb_sm3 _ _ _ | exact tb_sm4 _ _ _ _ | exact Or.inl rfl | exact Or.inr rfl | fail) only [r79_335, tb_vl_some, tb_vl_none, tb_wF_some, nI_add, pk_mul, e_sub, e_div, tb_nmod, e_dec, e_le, e_lt, e_eq, e_eq0, e_lt0, e_0le, e_0lt, e_le0, if_true, if_false, not_true_eq_false, not_false_eq_true, ite_true, ite_false, Nat.reduceAdd, Nat.reduceMul, Nat.reduceLeDiff, Nat.reduceLT, Nat.reduceEqDiff, Nat.reduceSub, ↓reduceIte, Nat.reduceDiv, Nat.reduceMod]
    rw [hh] at hC2
    exact k338 h2 hs k ⟨hC2, kS, fun i hi => kH i (by omega)⟩ hF2
theorem L_bound {s : Nat → Nat} (hV : pp_V s) (h9 : ∀ k, k < 4 → s (9 + k) ≤ 99 * T) : pp_L s ≤ 396 * T := by
  obtain ⟨-, v2, v3, -⟩ := hV
  have a0 := h9 0 (by decide); have a1 := h9 1 (by decide); have a2 := h9 2 (by decide); have a3 := h9 3 (by decide)
  simp only [Nat.reduceAdd] at a0 a1 a2 a3
  omega
theorem rc_nn {n : Nat} (hn : n < 2 ^ 31) : sp_rc (nI n) hs kn v = sp_rec hs kn v := by
  unfold sp_rc
  rw [if_neg (by rw [e_lt0 hn]; exact id)]
/-- ticks pass, something is asked, and they are undone -/
theorem k_pu {n : Nat} (hK : lw_K h x T s v hs kn r) (hT1 : T ≤ 100) (h1 : 1 ≤ n) (h2 : n ≤ 99) (hd : 5 ≤ d) (hQ : ∀ h' k2, (sp_rec hs kn v).2 = k2 + 1 → (sp_rec hs kn v).1 k2 = v → tb_CF h' x (sp_pass v n) (sp_rec hs kn v).1 (k2 + 1) sp_g0 → sp_W (sp_pass v n) → tb_out h h' x (x + 198) → Q (some (.int (nI (pp_L (sp_pass v n) - pp_L v)))) h' nx) :
    tb_wp E d 50 0 [.ref x, .int (nI n)] [] h nx 0 0 Q := by
  obtain ⟨k1, kH, kS, kV, kc⟩ := hK
  have h0 := kV.2.2.1
  have e := pass_eq1 (v := v) h1 h2 (by omega)
  have hW := W_pass kV.1 (nI n)
  have hb := L_bound (T := T) (V_pass kV.2.1 n) (fun k hk => by rw [pass_lo (by omega) (by omega)]; exact kV.2.2.2 k hk)
  refine k_pass k1 kV.1 hd (fun h' hC' hF' => ?_)
  rw [e] at hC' hW ⊢
  dsimp only at hC' hW ⊢
  rw [rc_nn (by omega)] at hC'
  obtain ⟨k2, e1, e2⟩ := rec_succ (hs := hs) (kn := kn) (s := v)
  rw [e1] at hC'
  exact hQ h' k2 e1 e2 hC' hW hF'
theorem l_tr1b {z5 z6 z7 z8 z9 z11 : Value} (hK : lw_K h x T s (pp_v s b a) hs kn r) (hT1 : T ≤ 100) (hb : b < 5) (ha : a ≤ 90) (hm1 : 1 ≤ pp_m s b a) (hm2 : pp_m s b a ≤ 98) (hd : 6 ≤ d) (hQ : ∀ h' hs' kn', lw_I h' x T s hs' kn' → tb_out h h' x (x + 198) → Q (some (.int (nI 1))) h' nx) :
    tb_wp E d 79 273 [.ref x, .int y, .int (nI b), .int (nI a), .int (nI (pp_m s b a)), z5, z6, z7, z8, z9, .int (nI (sp_all s b)), z11, .int (nI 1), .int r, .long 0, .long 0, .long 0, .long 0] [] h nx 0 0 Q := by
  have oX := hK.1.1.O
  by_cases m1 : pp_m s b a = 1
  · simp (disch := first | assumption | omega | exact tb_sm0 | exact tb_sm1 _ | exact tb_sm2 _ _ | exact tb_sm3 _ _ _ | exact tb_sm4 _ _ _ _ | exact Or.inl rfl | exact Or.inr rfl | fail) only [r79_273, r79_275, r79_278, r79_280, r79_281, r79_284, r79_285, r79_287, r79_288, r79_289, r79_292, r79_295, r79_296, r79_297, r79_299, r79_302, r79_305, r79_306, r79_309, r79_312, r79_313, r79_316, r79_317, m1, eq_self, tb_vl_some, tb_vl_none, tb_wF_some, nI_add, pk_mul, e_sub, e_div, tb_nmod, e_dec, e_le, e_lt, e_eq, e_eq0, e_lt0, e_0le, e_0lt, e_le0, if_true, if_false, not_true_eq_false, not_false_eq_true, ite_true, ite_false, Nat.reduceAdd, Nat.reduceMul, Nat.reduceLeDiff, Nat.reduceLT, Nat.reduceEqDiff, Nat.reduceSub, ↓reduceIte, Nat.reduceDiv, Nat.reduceMod]
    exact l_tr2 hK hb ha hd hQ
  · simp (disch := first | assumption | omega | exact tb_sm0 | exact tb_sm1 _ | exact tb_sm2 _ _ | exact tb_sm3 _ _ _ | exact tb_sm4 _ _ _ _ | exact Or.inl rfl | exact Or.inr rfl | fail) only [r79_273, r79_275, r79_278, r79_280, r79_281, r79_284, r79_285, r79_287, r79_288, r79_289, m1, tb_vl_some, tb_vl_none, tb_wF_some, nI_add, pk_mul, e_sub, e_div, tb_nmod, e_dec, e_le, e_lt, e_eq, e_eq0, e_lt0, e_0le, e_0lt, e_le0, if_true, if_false, not_true_eq_false, not_false_eq_true, ite_true, ite_false, Nat.reduceAdd, Nat.reduceMul, Nat.reduceLeDiff, Nat.reduceLT, Nat.reduceEqDiff, Nat.reduceSub, ↓reduceIte, Nat.reduceDiv, Nat.reduceMod]
    refine k_pu hK hT1 (by omega) (by omega) (by omega) (fun h2 k2 e1 e2 hC2 hW2 hF2 => ?_)
    have oX2 := hC2.1.O
    have er : sp_r1 (sp_pass (pp_v s b a) (pp_m s b a - 1)) b = 0 := by unfold sp_r1; rw [pass_v1 hb (by omega)]; rfl
    have qb : ∀ {Q' : Option Value → tb_heap → Nat → Prop}, tb_wp E (d - 1) 54 0 [.ref x, .int (nI b), .int (nI 7), .long 0] [] h2 nx 0 0 Q' = Q' (some (.int (nI 0))) h2 nx := by
      intro Q'
      rw [q_board hC2 hW2.1 (by omega) hb (by decide)]
      show Q' (some (.int (nI (sp_r1 (sp_pass (pp_v s b a) (pp_m s b a - 1)) b)))) h2 nx = _
      rw [er]
    have hbd := L_bound (T := T) (V_pass hK.2.2.2.1.2.1 (pp_m s b a - 1)) (fun k hk => by rw [pass_lo (by omega) (by omega)]; exact hK.2.2.2.1.2.2.2 k hk)
    have h4 := CF_kn hC2
    simp (disch := first | assumption | omega | exact tb_sm0 | exact tb_sm1 _ | exact tb_sm2 _ _ | exact tb_sm3 _ _ _ | exact tb_sm4 _ _ _ _ | exact Or.inl rfl | exact Or.inr rfl | fail) only [r79_292, r79_295, r79_296, r79_297, r79_299, r79_302, r79_305, r79_306, qb, tb_vl_some, tb_vl_none, tb_wF_some, nI_add, pk_mul, e_sub, e_div, tb_nmod, e_dec, e_le, e_lt, e_eq, e_eq0, e_lt0, e_0le, e_0lt, e_le0, if_true, if_false, not_true_eq_false, not_false_eq_true, ite_true, ite_false, Nat.reduceAdd, Nat.reduceMul, Nat.reduceLeDiff, Nat.reduceLT, Nat.reduceEqDiff, Nat.reduceSub, ↓reduceIte, Nat.reduceDiv, Nat.reduceMod]
    refine k_undo hC2 (by rw [e2]; exact hK.2.2.2.1.1.1.2.2.2.2) (by omega) (fun h3 hC3 hF3 => ?_)
    rw [e2] at hC3
    simp (disch := first | assumption | omega | exact tb_sm0 | exact tb_sm1 _ | exact tb_sm2 _ _ | exact tb_sm3 _ _ _ | exact tb_sm4 _ _ _ _ | exact Or.inl rfl | exact Or.inr rfl | fail) only [r79_309, r79_312, r79_313, r79_316, r79_317, tb_vl_some, tb_vl_none, tb_wF_some, nI_add, pk_mul, e_sub, e_div, tb_nmod, e_dec, e_le, e_lt, e_eq, e_eq0, e_lt0, e_0le, e_0lt, e_le0, if_true, if_false, not_true_eq_false, not_false_eq_true, ite_true, ite_false, Nat.reduceAdd, Nat.reduceMul, Nat.reduceLeDiff, Nat.reduceLT, Nat.reduceEqDiff, Nat.reduceSub, ↓reduceIte, Nat.reduceDiv, Nat.reduceMod]
    exact l_tr2 (hK.pu e1 hC3) hb ha hd (fun h4 hs4 kn4 hI4 hF4 => hQ h4 hs4 kn4 hI4 ((hF2.tr hF3).tr hF4))
theorem l_tr1a {f u l : Nat} {z11 : Value} (hK : lw_K h x T s (pp_v s b a) hs kn r) (hT1 : T ≤ 100) (hb : b < 5) (ha : a ≤ 90) (hf : s (18 + b) + f = pp_F s b a (18 + b)) (hu : s (23 + b) + u = pp_F s b a (23 + b)) (hl : l = sp_all (pp_F s b a) b) (hd : 6 ≤ d) (hQ : ∀ h' hs' kn', lw_I h' x T s hs' kn' → tb_out h h' x (x + 198) → Q (some (.int (nI 1))) h' nx) :
    tb_wp E d 79 181 [.ref x, .int y, .int (nI b), .int (nI a), .int (nI (pp_m s b a)), .int (nI f), .int (nI u), .int (nI l), .int (nI (s (18 + b))), .int (nI (s (23 + b))), .int (nI (sp_all s b)), z11, .int (nI 1), .int r, .long 0, .long 0, .long 0, .long 0] [] h nx 0 0 Q := by
  have oX := hK.1.1.O
  have hm := pp_mle (s := s) (b := b) (a := a)
  by_cases m0 : pp_m s b a = 0
  · simp (disch := first | assumption | omega | exact tb_sm0 | exact tb_sm1 _ | exact tb_sm2 _ _ | exact tb_sm3 _ _ _ | exact tb_sm4 _ _ _ _ | exact Or.inl rfl | exact Or.inr rfl | fail) only [r79_181, r79_183, r79_186, r79_188, m0, tb_vl_some, tb_vl_none, tb_wF_some, nI_add, pk_mul, e_sub, e_div, tb_nmod, e_dec, e_le, e_lt, e_eq, e_eq0, e_lt0, e_0le, e_0lt, e_le0, if_true, if_false, not_true_eq_false, not_false_eq_true, ite_true, ite_false, Nat.reduceAdd, Nat.reduceMul, Nat.reduceLeDiff, Nat.reduceLT, Nat.reduceEqDiff, Nat.reduceSub, ↓reduceIte, Nat.reduceDiv, Nat.reduceMod]
    exact l_tr2 hK hb ha hd hQ
  · by_cases m9 : 99 ≤ pp_m s b a
    · simp (disch := first | assumption | omega | exact tb_sm0 | exact tb_sm1 _ | exact tb_sm2 _ _ | exact tb_sm3 _ _ _ | exact tb_sm4 _ _ _ _ | exact Or.inl rfl | exact Or.inr rfl | fail) only [r79_181, r79_183, r79_186, r79_188, r79_191, r79_193, r79_195, m0, m9, tb_vl_some, tb_vl_none, tb_wF_some, nI_add, pk_mul, e_sub, e_div, tb_nmod, e_dec, e_le, e_lt, e_eq, e_eq0, e_lt0, e_0le, e_0lt, e_le0, if_true, if_false, not_true_eq_false, not_false_eq_true, ite_true, ite_false, Nat.reduceAdd, Nat.reduceMul, Nat.reduceLeDiff, Nat.reduceLT, Nat.reduceEqDiff, Nat.reduceSub, ↓reduceIte, Nat.reduceDiv, Nat.reduceMod]
      exact l_tr2 hK hb ha hd hQ
    · simp (disch := first | assumption | omega | exact tb_sm0 | exact tb_sm1 _ | exact tb_sm2 _ _ | exact tb_sm3 _ _ _ | exact tb_sm4 _ _ _ _ | exact Or.inl rfl | exact Or.inr rfl | fail) only [r79_181, r79_183, r79_186, r79_188, r79_191, r79_193, r79_195, r79_198, r79_199, r79_201, m0, m9, tb_vl_some, tb_vl_none, tb_wF_some, nI_add, pk_mul, e_sub, e_div, tb_nmod, e_dec, e_le, e_lt, e_eq, e_eq0, e_lt0, e_0le, e_0lt, e_le0, if_true, if_false, not_true_eq_false, not_false_eq_true, ite_true, ite_false, Nat.reduceAdd, Nat.reduceMul, Nat.reduceLeDiff, Nat.reduceLT, Nat.reduceEqDiff, Nat.reduceSub, ↓reduceIte, Nat.reduceDiv, Nat.reduceMod]
      refine k_pu hK hT1 (by omega) (by omega) (by omega) (fun h2 k2 e1 e2 hC2 hW2 hF2 => ?_)
      have oX2 := hC2.1.O
      obtain ⟨p1, p2, p3, p4⟩ := pass_v (s := s) (b := b) (a := a) hb (by omega)
      have er : sp_r1 (sp_pass (pp_v s b a) (pp_m s b a)) b = 1 := by unfold sp_r1; rw [p4]; rfl
      have q3 : ∀ {Q' : Option Value → tb_heap → Nat → Prop}, tb_wp E (d - 1) 54 0 [.ref x, .int (nI b), .int (nI 3), .long 0] [] h2 nx 0 0 Q' = Q' (some (.int (nI (pp_F s b a (18 + b))))) h2 nx := by
        intro Q'
        rw [← p1]
        exact q_board hC2 hW2.1 (by omega) hb (by decide)
      have q4 : ∀ {Q' : Option Value → tb_heap → Nat → Prop}, tb_wp E (d - 1) 54 0 [.ref x, .int (nI b), .int (nI 4), .long 0] [] h2 nx 0 0 Q' = Q' (some (.int (nI (pp_F s b a (23 + b))))) h2 nx := by
        intro Q'
        rw [← p2]
        exact q_board hC2 hW2.1 (by omega) hb (by decide)
      have q1 : ∀ {Q' : Option Value → tb_heap → Nat → Prop}, tb_wp E (d - 1) 54 0 [.ref x, .int (nI b), .int (nI 1), .long 0] [] h2 nx 0 0 Q' = Q' (some (.int (nI l))) h2 nx := by
        intro Q'
        rw [hl, ← p3]
        exact q_board hC2 hW2.1 (by omega) hb (by decide)
      have q7 : ∀ {Q' : Option Value → tb_heap → Nat → Prop}, tb_wp E (d - 1) 54 0 [.ref x, .int (nI b), .int (nI 7), .long 0] [] h2 nx 0 0 Q' = Q' (some (.int (nI 1))) h2 nx := by
        intro Q'
        rw [q_board hC2 hW2.1 (by omega) hb (by decide)]
        show Q' (some (.int (nI (sp_r1 (sp_pass (pp_v s b a) (pp_m s b a)) b)))) h2 nx = _
        rw [er]
      have hbd := L_bound (T := T) (V_pass hK.2.2.2.1.2.1 (pp_m s b a)) (fun k hk => by rw [pass_lo (by omega) (by omega)]; exact hK.2.2.2.1.2.2.2 k hk)
      have hfe := pass_fell (s := pp_v s b a) (n := pp_m s b a) hb
      rw [p1, (v_18 (s := s) (a := a) hb).1] at hfe
      have hlt : ¬ pp_L (sp_pass (pp_v s b a) (pp_m s b a)) - pp_L (pp_v s b a) < f := by omega
      have h4 := CF_kn hC2
      simp (disch := first | assumption | omega | exact tb_sm0 | exact tb_sm1 _ | exact tb_sm2 _ _ | exact tb_sm3 _ _ _ | exact tb_sm4 _ _ _ _ | exact Or.inl rfl | exact Or.inr rfl | fail) only [r79_204, r79_206, r79_209, r79_210, r79_211, r79_212, r79_215, r79_217, r79_219, r79_220, r79_223, r79_224, r79_225, r79_226, r79_229, r79_231, r79_233, r79_234, r79_237, r79_238, r79_239, r79_240, r79_243, r79_245, r79_248, r79_249, r79_250, r79_252, r79_255, r79_256, r79_259, r79_260, q1, q3, q4, q7, hlt, hf, hu, nI_add, eq_self, tb_vl_some, tb_vl_none, tb_wF_some, nI_add, pk_mul, e_sub, e_div, tb_nmod, e_dec, e_le, e_lt, e_eq, e_eq0, e_lt0, e_0le, e_0lt, e_le0, if_true, if_false, not_true_eq_false, not_false_eq_true, ite_true, ite_false, Nat.reduceAdd, Nat.reduceMul, Nat.reduceLeDiff, Nat.reduceLT, Nat.reduceEqDiff, Nat.reduceSub, ↓reduceIte, Nat.reduceDiv, Nat.reduceMod]
      refine k_undo hC2 (by rw [e2]; exact hK.2.2.2.1.1.1.2.2.2.2) (by omega) (fun h3 hC3 hF3 => ?_)
      rw [e2] at hC3
      simp (disch := first | assumption | omega | exact tb_sm0 | exact tb_sm1 _ | exact tb_sm2 _ _ | exact tb_sm3 _ _ _ | exact tb_sm4 _ _ _ _ | exact Or.inl rfl | exact Or.inr rfl | fail) only [r79_263, r79_266, r79_267, r79_270, r79_271, tb_vl_some, tb_vl_none, tb_wF_some, nI_add, pk_mul, e_sub, e_div, tb_nmod, e_dec, e_le, e_lt, e_eq, e_eq0, e_lt0, e_0le, e_0lt, e_le0, if_true, if_false, not_true_eq_false, not_false_eq_true, ite_true, ite_false, Nat.reduceAdd, Nat.reduceMul, Nat.reduceLeDiff, Nat.reduceLT, Nat.reduceEqDiff, Nat.reduceSub, ↓reduceIte, Nat.reduceDiv, Nat.reduceMod]
      exact l_tr1b (hK.pu e1 hC3) hT1 hb ha (by omega) (by omega) hd (fun h4 hs4 kn4 hI4 hF4 => hQ h4 hs4 kn4 hI4 ((hF2.tr hF3).tr hF4))
theorem l_tr0 {f u l : Nat} {z11 : Value} (hI : lw_I h x T s hs kn) (hT1 : T ≤ 99) (hb : b < 5) (ha : a ≤ 90) (hf : s (18 + b) + f = pp_F s b a (18 + b)) (hu : s (23 + b) + u = pp_F s b a (23 + b)) (hl : l = sp_all (pp_F s b a) b) (hd : 7 ≤ d) (hQ : ∀ h' hs' kn', lw_I h' x (T + 1) s hs' kn' → tb_out h h' x (x + 198) → Q (some (.int (nI 1))) h' nx) :
    tb_wp E d 79 143 [.ref x, .int y, .int (nI b), .int (nI a), .int (nI (pp_m s b a)), .int (nI f), .int (nI u), .int (nI l), .int (nI (s (18 + b))), .int (nI (s (23 + b))), .int (nI (sp_all s b)), z11, .int (nI 1), .long 0, .long 0, .long 0, .long 0, .long 0] [] h nx 0 0 Q := by
  obtain ⟨hC, hT, hH⟩ := hI
  have oX := hC.1.O
  have hm := pp_mle (s := s) (b := b) (a := a)
  have te := tilt_eq (s := s) hT.1.1 hb ha
  have tv := T_tilt hT (nI b) (nI a)
  have hv : pp_T (T + 1) (pp_v s b a) := by
    rw [te] at tv
    by_cases c : s (13 + b) = a
    · rw [v_same c]; exact hT.le (by omega)
    · rw [if_neg c] at tv; exact tv
  have han := hT.1.1.2.2.2.1 b hb
  simp (disch := first | assumption | omega | exact tb_sm0 | exact tb_sm1 _ | exact tb_sm2 _ _ | exact tb_sm3 _ _ _ | exact tb_sm4 _ _ _ _ | exact Or.inl rfl | exact Or.inr rfl | fail) only [r79_143, r79_144, r79_145, r79_146, tb_vl_some, tb_vl_none, tb_wF_some]
  refine k_tilt hC hT.1 (by omega) (fun h2 hC2 hF2 => ?_)
  have kk : lw_K h2 x (T + 1) s (pp_v s b a) (sp_rc (ac_tilt s (nI b) (nI a)).1 hs kn s).1 (sp_rc (ac_tilt s (nI b) (nI a)).1 hs kn s).2 (ac_tilt s (nI b) (nI a)).1 := by
    rw [te] at hC2 ⊢
    by_cases c : s (13 + b) = a
    · rw [if_pos c] at hC2 ⊢
      rw [sp_rc_neg (show (-5 : Int32) < 0 by decide)] at hC2 ⊢
      exact ⟨by rw [v_same c]; exact hC2, fun i hi => (hH i hi).le (by omega), hT.le (by omega), hv, Or.inl ⟨rfl, v_same c⟩⟩
    · rw [if_neg c] at hC2 ⊢
      dsimp only at hC2 ⊢
      rw [rc_nn (by omega)] at hC2 ⊢
      obtain ⟨k2, e1, e2⟩ := rec_succ (hs := hs) (kn := kn) (s := s)
      exact ⟨hC2, fun i hi => rec_P (P := pp_T (T + 1)) (fun i hi => (hH i hi).le (by omega)) (hT.le (by omega)) i hi, hT.le (by omega), hv, Or.inr ⟨s (13 + b), k2, han, rfl, e1, e2⟩⟩
  have oX2 := hC2.1.O
  generalize (sp_rc (ac_tilt s (nI b) (nI a)).1 hs kn s).1 = hs1 at *
  generalize (sp_rc (ac_tilt s (nI b) (nI a)).1 hs kn s).2 = kn1 at *
  generalize (ac_tilt s (nI b) (nI a)).1 = r at *
  by_cases m3 : pp_m s b a = 300
  · simp (disch := first | assumption | omega | exact tb_sm0 | exact tb_sm1 _ | exact tb_sm2 _ _ | exact tb_sm3 _ _ _ | exact tb_sm4 _ _ _ _ | exact Or.inl rfl | exact Or.inr rfl | fail) only [r79_149, r79_151, r79_153, r79_156, r79_158, r79_161, r79_164, r79_165, r79_166, r79_169, r79_171, r79_174, r79_175, r79_178, r79_179, m3, eq_self, tb_vl_some, tb_vl_none, tb_wF_some, nI_add, pk_mul, e_sub, e_div, tb_nmod, e_dec, e_le, e_lt, e_eq, e_eq0, e_lt0, e_0le, e_0lt, e_le0, if_true, if_false, not_true_eq_false, not_false_eq_true, ite_true, ite_false, Nat.reduceAdd, Nat.reduceMul, Nat.reduceLeDiff, Nat.reduceLT, Nat.reduceEqDiff, Nat.reduceSub, ↓reduceIte, Nat.reduceDiv, Nat.reduceMod]
    rw [← m3]
    exact l_tr1a kk (by omega) hb ha hf hu hl (by omega) (fun h4 hs4 kn4 hI4 hF4 => hQ h4 hs4 kn4 hI4 (hF2.tr hF4))
  · simp (disch := first | assumption | omega | exact tb_sm0 | exact tb_sm1 _ | exact tb_sm2 _ _ | exact tb_sm3 _ _ _ | exact tb_sm4 _ _ _ _ | exact Or.inl rfl | exact Or.inr rfl | fail) only [r79_149, r79_151, r79_153, r79_156, r79_158, r79_161, r79_164, r79_165, r79_166, m3, tb_vl_some, tb_vl_none, tb_wF_some, nI_add, pk_mul, e_sub, e_div, tb_nmod, e_dec, e_le, e_lt, e_eq, e_eq0, e_lt0, e_0le, e_0lt, e_le0, if_true, if_false, not_true_eq_false, not_false_eq_true, ite_true, ite_false, Nat.reduceAdd, Nat.reduceMul, Nat.reduceLeDiff, Nat.reduceLT, Nat.reduceEqDiff, Nat.reduceSub, ↓reduceIte, Nat.reduceDiv, Nat.reduceMod]
    refine k_restsIn kk.1 hv.1.1 (by omega) (fun h3 hC3 hF3 => ?_)
    rw [rests_v hb m3]
    simp (disch := first | assumption | omega | exact tb_sm0 | exact tb_sm1 _ | exact tb_sm2 _ _ | exact tb_sm3 _ _ _ | exact tb_sm4 _ _ _ _ | exact Or.inl rfl | exact Or.inr rfl | fail) only [r79_169, r79_171, r79_174, r79_175, r79_178, r79_179, eq_self, tb_vl_some, tb_vl_none, tb_wF_some, nI_add, pk_mul, e_sub, e_div, tb_nmod, e_dec, e_le, e_lt, e_eq, e_eq0, e_lt0, e_0le, e_0lt, e_le0, if_true, if_false, not_true_eq_false, not_false_eq_true, ite_true, ite_false, Nat.reduceAdd, Nat.reduceMul, Nat.reduceLeDiff, Nat.reduceLT, Nat.reduceEqDiff, Nat.reduceSub, ↓reduceIte, Nat.reduceDiv, Nat.reduceMod]
    exact l_tr1a ⟨hC3, kk.2⟩ (by omega) hb ha hf hu hl (by omega) (fun h4 hs4 kn4 hI4 hF4 => hQ h4 hs4 kn4 hI4 ((hF2.tr hF3).tr hF4))
theorem til_ok {w : Nat} (hb : b < 5) (ha : a ≤ 90) (hw : w ≤ 3) : an_til s (nI b) (nI a) (nI w) = sp_til s b a w := by
  unfold an_til
  rw [if_neg (e_ok (by omega) (by decide)), if_neg (fun q => q.elim (e_ok ha (by decide)) (e_ok hw (by decide))), sp_n_nI (by omega), sp_n_nI (by omega), sp_n_nI (by omega)]
theorem l_tries (hI : lw_I h x T s hs kn) (hT1 : T ≤ 99) (hd : 8 ≤ d) (hQ : ∀ h' hs' kn', lw_I h' x (T + 1) s hs' kn' → tb_out h h' x (x + 198) → Q (some (.int (nI 1))) h' nx) :
    tb_wp E d 79 0 [.ref x, .int y, .long 0, .long 0, .long 0, .long 0, .long 0, .long 0, .long 0, .long 0, .long 0, .long 0, .long 0, .long 0, .long 0, .long 0, .long 0, .long 0] [] h nx 0 0 Q := by
  obtain ⟨hC, hT, hH⟩ := hI
  have hJ := hT.1.1
  have oX := hC.1.O
  have low : ∀ {v : Int32} {n : Nat} (h0 : 0 < n) (hn : n < 2 ^ 31) {Q' : Option Value → tb_heap → Nat → Prop}, tb_wp E (d - 1) 73 0 [.int v, .int (nI n)] [] h nx 0 0 Q' = Q' (some (.int (nI (lw_lo v n)))) h nx := fun h0 hn => l_low h0 hn
  simp (disch := first | assumption | omega | exact tb_sm0 | exact tb_sm1 _ | exact tb_sm2 _ _ | exact tb_sm3 _ _ _ | exact tb_sm4 _ _ _ _ | exact Or.inl rfl | exact Or.inr rfl | fail) only [r79_0, r79_1, r79_2, r79_5, r79_6, r79_7, r79_8, r79_9, r79_11, r79_14, low, tb_vl_some, tb_vl_none, tb_wF_some]
  have hb3 := lo_lt y (show 0 < 3 by decide)
  have ha91 := lo_lt (y >>> (nI 3 &&& 31)) (show 0 < 91 by decide)
  generalize lw_lo y 3 = b at hb3 ⊢
  generalize lw_lo (y >>> (nI 3 &&& 31)) 91 = a at ha91 ⊢
  have hb : b < 5 := by omega
  have ha : a ≤ 90 := by omega
  obtain ⟨c1, c2, c3⟩ := F_cons (s := s) (a := a) hb
  have hal := all_le hJ hb
  have e0 : an_til s (nI b) (nI a) (nI 0) = nI (pp_m s b a) := til_ok hb ha (by decide)
  have e1 : an_til s (nI b) (nI a) (nI 1) = nI (pp_F s b a (18 + b) - s (18 + b)) := (til_ok hb ha (by decide)).trans (til_1 hb)
  have e2 : an_til s (nI b) (nI a) (nI 2) = nI (pp_F s b a (23 + b) - s (23 + b)) := (til_ok hb ha (by decide)).trans (til_2 hb)
  have e3 : an_til s (nI b) (nI a) (nI 3) = nI (sp_all (pp_F s b a) b) := til_ok hb ha (by decide)
  have hf : s (18 + b) + (pp_F s b a (18 + b) - s (18 + b)) = pp_F s b a (18 + b) := by omega
  have hu : s (23 + b) + (pp_F s b a (23 + b) - s (23 + b)) = pp_F s b a (23 + b) := by omega
  have hsum : pp_F s b a (18 + b) - s (18 + b) + (pp_F s b a (23 + b) - s (23 + b)) + sp_all (pp_F s b a) b = sp_all s b := by omega
  have hl : sp_all (pp_F s b a) b = sp_all (pp_F s b a) b := rfl
  have fin := fun (h' : tb_heap) (hC' : tb_CF h' x s hs kn sp_g0) (hF' : tb_out h h' x (x + 198)) (z11 : Value) => l_tr0 (E := E) (d := d) (nx := nx) (Q := Q) (y := y) (z11 := z11) ⟨hC', hT, hH⟩ hT1 hb ha hf hu hl (by omega) (fun h4 hs4 kn4 hI4 hF4 => hQ h4 hs4 kn4 hI4 (hF'.tr hF4))
  generalize hfv : pp_F s b a (18 + b) - s (18 + b) = f at *
  generalize huv : pp_F s b a (23 + b) - s (23 + b) = u at *
  generalize sp_all (pp_F s b a) b = l at *
  simp (disch := first | assumption | omega | exact tb_sm0 | exact tb_sm1 _ | exact tb_sm2 _ _ | exact tb_sm3 _ _ _ | exact tb_sm4 _ _ _ _ | exact Or.inl rfl | exact Or.inr rfl | fail) only [r79_15, r79_16, r79_17, r79_18, r79_19, tb_vl_some, tb_vl_none, tb_wF_some]
  refine k_ifTilted hC hJ (by omega) (fun h1 hC1 hF1 => ?_)
  have o1 := hC1.1.O
  rw [e0]
  simp (disch := first | assumption | omega | exact tb_sm0 | exact tb_sm1 _ | exact tb_sm2 _ _ | exact tb_sm3 _ _ _ | exact tb_sm4 _ _ _ _ | exact Or.inl rfl | exact Or.inr rfl | fail) only [r79_22, r79_24, r79_25, r79_26, r79_27, r79_28, tb_vl_some, tb_vl_none, tb_wF_some]
  refine k_ifTilted hC1 hJ (by omega) (fun h2 hC2 hF2 => ?_)
  have o2 := hC2.1.O
  rw [e1]
  simp (disch := first | assumption | omega | exact tb_sm0 | exact tb_sm1 _ | exact tb_sm2 _ _ | exact tb_sm3 _ _ _ | exact tb_sm4 _ _ _ _ | exact Or.inl rfl | exact Or.inr rfl | fail) only [r79_31, r79_33, r79_34, r79_35, r79_36, r79_37, tb_vl_some, tb_vl_none, tb_wF_some]
  refine k_ifTilted hC2 hJ (by omega) (fun h3 hC3 hF3 => ?_)
  have o3 := hC3.1.O
  rw [e2]
  simp (disch := first | assumption | omega | exact tb_sm0 | exact tb_sm1 _ | exact tb_sm2 _ _ | exact tb_sm3 _ _ _ | exact tb_sm4 _ _ _ _ | exact Or.inl rfl | exact Or.inr rfl | fail) only [r79_40, r79_42, r79_43, r79_44, r79_45, r79_46, tb_vl_some, tb_vl_none, tb_wF_some]
  refine k_ifTilted hC3 hJ (by omega) (fun h4 hC4 hF4 => ?_)
  have o4 := hC4.1.O
  rw [e3]
  have qb : ∀ {w : Nat} (hw : w < 8) {Q' : Option Value → tb_heap → Nat → Prop}, tb_wp E (d - 1) 54 0 [.ref x, .int (nI b), .int (nI w), .long 0] [] h4 nx 0 0 Q' = Q' (some (.int (an_board' s b w))) h4 nx := fun hw => q_board hC4 hJ (by omega) hb hw
  simp (disch := first | assumption | omega | exact tb_sm0 | exact tb_sm1 _ | exact tb_sm2 _ _ | exact tb_sm3 _ _ _ | exact tb_sm4 _ _ _ _ | exact Or.inl rfl | exact Or.inr rfl | fail) only [r79_49, r79_51, r79_52, r79_53, r79_54, r79_57, r79_59, r79_60, r79_61, r79_62, r79_65, r79_67, r79_68, r79_69, r79_70, r79_73, r79_75, r79_76, r79_77, qb, an_board', tb_vl_some, tb_vl_none, tb_wF_some]
  refine k_clearingAngle hC4 hJ (by omega) (fun h5 hC5 hF5 => ?_)
  have o5 := hC5.1.O
  have F5 := (((hF1.tr hF2).tr hF3).tr hF4).tr hF5
  have ec : an_clr s (nI b) = sp_clr s b 91 := by
    unfold an_clr
    rw [if_neg (e_ok (by omega) (by decide)), sp_n_nI (by omega)]
  rw [ec]
  rcases clr_spec (s := s) (b := b) 91 (Nat.le_refl _) with q | ⟨c, -, q2, q3, q4, q5⟩
  · have m5 : ((-5 : Int32) ≤ 0) = True := by decide
    rw [q]
    simp (disch := first | assumption | omega | exact tb_sm0 | exact tb_sm1 _ | exact tb_sm2 _ _ | exact tb_sm3 _ _ _ | exact tb_sm4 _ _ _ _ | exact Or.inl rfl | exact Or.inr rfl | fail) only [r79_80, r79_82, r79_84, r79_86, r79_87, r79_89, r79_90, r79_92, r79_95, r79_97, r79_99, r79_102, r79_103, r79_104, r79_106, r79_107, r79_110, r79_113, r79_115, r79_118, r79_119, r79_120, r79_122, r79_123, r79_124, r79_125, r79_128, r79_131, r79_133, r79_136, r79_137, r79_140, r79_141, hsum, m5, nI_add, eq_self, tb_vl_some, tb_vl_none, tb_wF_some, nI_add, pk_mul, e_sub, e_div, tb_nmod, e_dec, e_le, e_lt, e_eq, e_eq0, e_lt0, e_0le, e_0lt, e_le0, if_true, if_false, not_true_eq_false, not_false_eq_true, ite_true, ite_false, Nat.reduceAdd, Nat.reduceMul, Nat.reduceLeDiff, Nat.reduceLT, Nat.reduceEqDiff, Nat.reduceSub, ↓reduceIte, Nat.reduceDiv, Nat.reduceMod]
    exact fin h5 hC5 F5 _
  · have n5 := e_n5 (show c < 2 ^ 31 by omega)
    rw [q3]
    simp (disch := first | assumption | omega | exact tb_sm0 | exact tb_sm1 _ | exact tb_sm2 _ _ | exact tb_sm3 _ _ _ | exact tb_sm4 _ _ _ _ | exact Or.inl rfl | exact Or.inr rfl | fail) only [r79_80, r79_82, r79_84, r79_86, r79_87, r79_89, r79_90, r79_92, r79_95, r79_97, r79_99, r79_102, r79_103, r79_104, r79_106, r79_107, hsum, n5, nI_add, eq_self, tb_vl_some, tb_vl_none, tb_wF_some, nI_add, pk_mul, e_sub, e_div, tb_nmod, e_dec, e_le, e_lt, e_eq, e_eq0, e_lt0, e_0le, e_0lt, e_le0, if_true, if_false, not_true_eq_false, not_false_eq_true, ite_true, ite_false, Nat.reduceAdd, Nat.reduceMul, Nat.reduceLeDiff, Nat.reduceLT, Nat.reduceEqDiff, Nat.reduceSub, ↓reduceIte, Nat.reduceDiv, Nat.reduceMod]
    refine k_ifTilted hC5 hJ (by omega) (fun h6 hC6 hF6 => ?_)
    have o6 := hC6.1.O
    rw [til_ok hb q2 (by decide), q4]
    by_cases c0 : c = 0
    · subst c0
      simp (disch := first | assumption | omega | exact tb_sm0 | exact tb_sm1 _ | exact tb_sm2 _ _ | exact tb_sm3 _ _ _ | exact tb_sm4 _ _ _ _ | exact Or.inl rfl | exact Or.inr rfl | fail) only [r79_110, r79_113, r79_115, r79_118, r79_119, r79_120, r79_122, r79_123, r79_124, r79_125, r79_128, r79_131, r79_133, r79_136, r79_137, r79_140, r79_141, eq_self, tb_vl_some, tb_vl_none, tb_wF_some, nI_add, pk_mul, e_sub, e_div, tb_nmod, e_dec, e_le, e_lt, e_eq, e_eq0, e_lt0, e_0le, e_0lt, e_le0, if_true, if_false, not_true_eq_false, not_false_eq_true, ite_true, ite_false, Nat.reduceAdd, Nat.reduceMul, Nat.reduceLeDiff, Nat.reduceLT, Nat.reduceEqDiff, Nat.reduceSub, ↓reduceIte, Nat.reduceDiv, Nat.reduceMod]
      exact fin h6 hC6 (F5.tr hF6) _
    · simp (disch := first | assumption | omega | exact tb_sm0 | exact tb_sm1 _ | exact tb_sm2 _ _ | exact tb_sm3 _ _ _ | exact tb_sm4 _ _ _ _ | exact Or.inl rfl | exact Or.inr rfl | fail) only [r79_110, r79_113, r79_115, r79_118, r79_119, r79_120, r79_122, r79_123, r79_124, r79_125, c0, eq_self, tb_vl_some, tb_vl_none, tb_wF_some, nI_add, pk_mul, e_sub, e_div, tb_nmod, e_dec, e_le, e_lt, e_eq, e_eq0, e_lt0, e_0le, e_0lt, e_le0, if_true, if_false, not_true_eq_false, not_false_eq_true, ite_true, ite_false, Nat.reduceAdd, Nat.reduceMul, Nat.reduceLeDiff, Nat.reduceLT, Nat.reduceEqDiff, Nat.reduceSub, ↓reduceIte, Nat.reduceDiv, Nat.reduceMod]
      refine k_ifTilted hC6 hJ (by omega) (fun h7 hC7 hF7 => ?_)
      have o7 := hC7.1.O
      have q6 := q5.resolve_left (by omega)
      have q7 : sp_til s b (c - 1) 3 = nI (sp_all (pp_F s b (c - 1)) b) := til_3
      have q8 := F_all_le (a := c - 1) hJ hb
      rw [til_3z hJ hb] at q6
      have q9 : 0 < sp_all (pp_F s b (c - 1)) b := by omega
      rw [til_ok hb (by omega) (by decide), q7]
      simp (disch := first | assumption | omega | exact tb_sm0 | exact tb_sm1 _ | exact tb_sm2 _ _ | exact tb_sm3 _ _ _ | exact tb_sm4 _ _ _ _ | exact Or.inl rfl | exact Or.inr rfl | fail) only [r79_128, r79_131, r79_133, r79_136, r79_137, r79_140, r79_141, q9, tb_vl_some, tb_vl_none, tb_wF_some, nI_add, pk_mul, e_sub, e_div, tb_nmod, e_dec, e_le, e_lt, e_eq, e_eq0, e_lt0, e_0le, e_0lt, e_le0, if_true, if_false, not_true_eq_false, not_false_eq_true, ite_true, ite_false, Nat.reduceAdd, Nat.reduceMul, Nat.reduceLeDiff, Nat.reduceLT, Nat.reduceEqDiff, Nat.reduceSub, ↓reduceIte, Nat.reduceDiv, Nat.reduceMod]
      exact fin h7 hC7 ((F5.tr hF6).tr hF7) _
end QU
