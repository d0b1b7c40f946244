/-! THE CLASS ITSELF: texts, history, what would be -/
theorem va_up_id (f : Nat → Nat) (k : Nat) : va_up f k (f k) = f := by
  funext j
  unfold va_up
  split
  · rename_i q; rw [q]
  · rfl
section C11
variable {E : tb_env} {d : Nat} {h : tb_heap} {nx : Nat} {Q : Option Value → tb_heap → Nat → Prop} {x kn : Nat} {s : Nat → Nat} {hs : Nat → Nat → Nat} {g : sp_G}
theorem tb_Hi.gh (hH : tb_Hi h x hs kn) : tb_gf h (x + 82) 1 2 = some (.int (nI kn)) ∧ tb_isO h (x + 82) 1 ∧ kn ≤ 4 := by
  obtain ⟨o, hst, -, hk, h0, -⟩ := hH
  exact ⟨h0.g.2.2, ⟨_, h0⟩, hk⟩
theorem k_undo_0 (hC : tb_CF h x s hs 0 g) : tb_wp E d 51 0 [.ref x] [] h nx 0 0 Q = Q (some (.int (-5))) h nx := by
  have g0 := hC.1.f
  have gh := hC.2.2.2.2.1.gh
  simp (disch := first | assumption | omega | exact tb_sm0 | exact tb_sm1 _ | exact tb_sm2 _ _ | exact tb_sm3 _ _ _ | exact tb_sm4 _ _ _ _ | exact Or.inl rfl | exact Or.inr rfl | fail) only [r51_0, r51_1, r51_4, r51_7, r51_10, r51_12, r51_13, r51_14, r51_17, r51_18, r51_21, r51_24, r51_25, r51_28, r51_31, g0, gh, tb_vl_some, tb_vl_none, tb_wF_some, nI_add, pk_mul, e_sub, e_div, tb_nmod, e_dec, e_le, e_lt, e_eq, e_eq0, e_lt0, e_0le, e_0lt, e_le0, if_true, if_false, not_true_eq_false, not_false_eq_true, ite_true, ite_false, Nat.reduceAdd, Nat.reduceMul, Nat.reduceLeDiff, Nat.reduceLT, Nat.reduceEqDiff, Nat.reduceSub, ↓reduceIte, Nat.reduceDiv, Nat.reduceMod]
theorem k_undo (hC : tb_CF h x s hs (kn + 1) g) (hm : sp_mb (hs kn)) (hd : 4 ≤ d) (hQ : ∀ h', tb_CF h' x (hs kn) hs kn g → tb_out h h' x (x + 198) → Q (some (.int (nI kn))) h' nx) :
    tb_wp E d 51 0 [.ref x] [] h nx 0 0 Q := by
  have g0 := hC.1.f
  obtain ⟨gh, oH, hk⟩ := hC.2.2.2.2.1.gh
  have hne : ¬ kn + 1 = 0 := by omega
  simp (disch := first | assumption | omega | exact tb_sm0 | exact tb_sm1 _ | exact tb_sm2 _ _ | exact tb_sm3 _ _ _ | exact tb_sm4 _ _ _ _ | exact Or.inl rfl | exact Or.inr rfl | fail) only [r51_0, r51_1, r51_4, r51_7, r51_10, r51_12, r51_13, r51_14, r51_17, r51_18, r51_21, r51_24, r51_25, r51_28, r51_31, g0, gh, hne, tb_vl_some, tb_vl_none, tb_wF_some, nI_add, pk_mul, e_sub, e_div, tb_nmod, e_dec, e_le, e_lt, e_eq, e_eq0, e_lt0, e_0le, e_0lt, e_le0, if_true, if_false, not_true_eq_false, not_false_eq_true, ite_true, ite_false, Nat.reduceAdd, Nat.reduceMul, Nat.reduceLeDiff, Nat.reduceLT, Nat.reduceEqDiff, Nat.reduceSub, ↓reduceIte, Nat.reduceDiv, Nat.reduceMod]
  refine h_takeLatest hC.2.2.2.2.1 hC.2.1 hm (by omega) (fun h2 hH2 hS2 hF2 => ?_)
  obtain ⟨a1, a2, ⟨bs, a3⟩, a4, a5, a6, a7⟩ := hC
  have hC2 : tb_CF h2 x (hs kn) hs kn g := ⟨(hF2 x (by omega) (by omega)).trans a1, hS2, ⟨bs, a3.fr (fun q q1 q2 => hF2 q (by omega) (by omega))⟩, a4.fr (fun q q1 q2 => hF2 q (by omega) (by omega)), hH2, a6.fr (fun q q1 q2 => hF2 q (by omega) (by omega)), a7.fr (fun q q1 q2 => hF2 q (by omega) (by omega))⟩
  have g2 := hC2.1.f
  have gh2 := hC2.2.2.2.2.1.gh.1
  simp (disch := first | assumption | omega | exact tb_sm0 | exact tb_sm1 _ | exact tb_sm2 _ _ | exact tb_sm3 _ _ _ | exact tb_sm4 _ _ _ _ | exact Or.inl rfl | exact Or.inr rfl | fail) only [r51_0, r51_1, r51_4, r51_7, r51_10, r51_12, r51_13, r51_14, r51_17, r51_18, r51_21, r51_24, r51_25, r51_28, r51_31, g2, gh2, tb_vl_some, tb_vl_none, tb_wF_some, nI_add, pk_mul, e_sub, e_div, tb_nmod, e_dec, e_le, e_lt, e_eq, e_eq0, e_lt0, e_0le, e_0lt, e_le0, if_true, if_false, not_true_eq_false, not_false_eq_true, ite_true, ite_false, Nat.reduceAdd, Nat.reduceMul, Nat.reduceLeDiff, Nat.reduceLT, Nat.reduceEqDiff, Nat.reduceSub, ↓reduceIte, Nat.reduceDiv, Nat.reduceMod]
  exact hQ h2 hC2 (fun q hq => hF2 q (by omega) (by omega))
theorem k_restore_0 (hC : tb_CF h x s hs kn g) (h0 : g.2.1 = 0) : tb_wp E d 52 0 [.ref x] [] h nx 0 0 Q = Q (some (.int (-5))) h nx := by
  have g0 := hC.1.f
  simp (disch := first | assumption | omega | exact tb_sm0 | exact tb_sm1 _ | exact tb_sm2 _ _ | exact tb_sm3 _ _ _ | exact tb_sm4 _ _ _ _ | exact Or.inl rfl | exact Or.inr rfl | fail) only [r52_0, r52_1, r52_4, r52_7, r52_9, r52_10, r52_11, r52_14, r52_15, r52_18, r52_21, r52_22, r52_25, r52_26, r52_29, r52_32, r52_33, r52_34, r52_37, r52_40, r52_43, g0, h0, tb_vl_some, tb_vl_none, tb_wF_some, nI_add, pk_mul, e_sub, e_div, tb_nmod, e_dec, e_le, e_lt, e_eq, e_eq0, e_lt0, e_0le, e_0lt, e_le0, if_true, if_false, not_true_eq_false, not_false_eq_true, ite_true, ite_false, Nat.reduceAdd, Nat.reduceMul, Nat.reduceLeDiff, Nat.reduceLT, Nat.reduceEqDiff, Nat.reduceSub, ↓reduceIte, Nat.reduceDiv, Nat.reduceMod]
theorem k_restore (hC : tb_CF h x s hs kn g) (hm : sp_mb s) (hmg : sp_mb g.1) (h1 : g.2.1 = 1) (hs0 : g.1 0 < 2 ^ 31) (hd : 5 ≤ d) (hQ : ∀ h', tb_CF h' x g.1 (sp_rec hs kn s).1 (sp_rec hs kn s).2 g → tb_out h h' x (x + 198) → Q (some (.int (nI (g.1 0)))) h' nx) :
    tb_wp E d 52 0 [.ref x] [] h nx 0 0 Q := by
  have g0 := hC.1.f
  obtain ⟨bs, hb⟩ := hC.2.2.1
  have oB := hb.1.O
  simp (disch := first | assumption | omega | exact tb_sm0 | exact tb_sm1 _ | exact tb_sm2 _ _ | exact tb_sm3 _ _ _ | exact tb_sm4 _ _ _ _ | exact Or.inl rfl | exact Or.inr rfl | fail) only [r52_0, r52_1, r52_4, r52_7, r52_9, r52_10, r52_11, r52_14, r52_15, r52_18, r52_22, r52_25, r52_26, r52_29, r52_32, r52_33, r52_34, r52_37, r52_40, r52_43, g0, h1, tb_vl_some, tb_vl_none, tb_wF_some, nI_add, pk_mul, e_sub, e_div, tb_nmod, e_dec, e_le, e_lt, e_eq, e_eq0, e_lt0, e_0le, e_0lt, e_le0, if_true, if_false, not_true_eq_false, not_false_eq_true, ite_true, ite_false, Nat.reduceAdd, Nat.reduceMul, Nat.reduceLeDiff, Nat.reduceLT, Nat.reduceEqDiff, Nat.reduceSub, ↓reduceIte, Nat.reduceDiv, Nat.reduceMod]
  refine s_copyFrom hm hC.2.1 hb (by omega) (by omega) (fun h2 hS2 hF2 => ?_)
  have hC2 := hC.upB hS2 hF2
  have g2 := hC2.1.f
  have oN := hC2.2.1.1.O
  obtain ⟨ss, hss, hse⟩ := hC2.2.2.2.1
  simp (disch := first | assumption | omega | exact tb_sm0 | exact tb_sm1 _ | exact tb_sm2 _ _ | exact tb_sm3 _ _ _ | exact tb_sm4 _ _ _ _ | exact Or.inl rfl | exact Or.inr rfl | fail) only [r52_0, r52_1, r52_4, r52_7, r52_9, r52_10, r52_11, r52_14, r52_15, r52_18, r52_21, r52_22, r52_25, r52_26, r52_29, r52_32, r52_33, r52_34, r52_37, r52_40, r52_43, g2, tb_vl_some, tb_vl_none, tb_wF_some]
  refine s_copyFrom (fun j hj => by rw [← hse h1 (208 + j) (by omega)]; exact hmg j hj) hss hC2.2.1 (by omega) (by omega) (fun h3 hS3 hF3 => ?_)
  have hS3' : tb_St h3 (x + 1) g.1 := hS3.of (hse h1)
  have hC3 := hC2.upS hS3' (fun q hq => hF3 q (by omega))
  have hB3 := hS2.fr (h' := h3) (fun q q1 q2 => hF3 q (by omega))
  have g3 := hC3.1.f
  have oX := hC3.1.O
  have gn := hC3.2.1.1.g
  simp (disch := first | assumption | omega | exact tb_sm0 | exact tb_sm1 _ | exact tb_sm2 _ _ | exact tb_sm3 _ _ _ | exact tb_sm4 _ _ _ _ | exact Or.inl rfl | exact Or.inr rfl | fail) only [r52_0, r52_1, r52_4, r52_7, r52_9, r52_10, r52_11, r52_14, r52_15, r52_18, r52_21, r52_22, r52_25, r52_26, r52_29, r52_32, r52_33, r52_34, r52_37, r52_40, r52_43, g3, gn, tb_vl_some, tb_vl_none, tb_wF_some]
  refine k_recorded hC3 hB3 hm (by omega) (fun h4 hC4 hF4 => ?_)
  try simp (disch := first | assumption | omega | exact tb_sm0 | exact tb_sm1 _ | exact tb_sm2 _ _ | exact tb_sm3 _ _ _ | exact tb_sm4 _ _ _ _ | exact Or.inl rfl | exact Or.inr rfl | fail) only [r52_0, r52_1, r52_4, r52_7, r52_9, r52_10, r52_11, r52_14, r52_15, r52_18, r52_21, r52_22, r52_25, r52_26, r52_29, r52_32, r52_33, r52_34, r52_37, r52_40, r52_43, tb_vl_some, tb_vl_none, tb_wF_some]
  have e : sp_rc (nI (g.1 0)) hs kn s = sp_rec hs kn s := by unfold sp_rc; rw [if_neg (by rw [e_lt0 hs0]; exact id)]
  rw [e] at hC4
  exact hQ h4 hC4 (fun q hq => by rw [hF4 q hq, hF3 q (by omega), hF2 q (by omega)])
theorem k_try_l {b : Nat} {y : Value} (hb : b < 5) (hd : 4 ≤ d) (n : Nat) : ∀ (c : Nat) (h : tb_heap) (T : Nat → Nat), c + n = 300 → tb_CF h x s hs kn g → tb_B h (x + 192) T b → (∀ j, 1 ≤ j → j < 9 → s j = T j) → sp_I T → (∀ h' F, tb_CF h' x s hs kn g → tb_B h' (x + 192) F b → (F = (sp_settle b n T).1 ∨ (sp_rest (sp_settle b n T).1 b ∧ F = sp_wipe (sp_settle b n T).1 b)) → (∀ j, 1 ≤ j → j < 9 → s j = F j) → tb_out h h' x (x + 198) → Q (some (.int (nI (c + (sp_settle b n T).2)))) h' nx) →
    tb_wp E d 66 26 [.ref x, .int (nI b), y, .int (nI c)] [] h nx 0 0 Q := by
  induction n with
  | zero =>
    intro c h T hc hC hB hR hI hQ
    simp (disch := first | assumption | omega | exact tb_sm0 | exact tb_sm1 _ | exact tb_sm2 _ _ | exact tb_sm3 _ _ _ | exact tb_sm4 _ _ _ _ | exact Or.inl rfl | exact Or.inr rfl | fail) only [r66_26, r66_27, r66_30, nI_add, pk_mul, e_sub, e_div, tb_nmod, e_dec, e_le, e_lt, e_eq, e_eq0, e_lt0, e_0le, e_0lt, e_le0, if_true, if_false, not_true_eq_false, not_false_eq_true, ite_true, ite_false, Nat.reduceAdd, Nat.reduceMul, Nat.reduceLeDiff, Nat.reduceLT, Nat.reduceEqDiff, Nat.reduceSub, ↓reduceIte, Nat.reduceDiv, Nat.reduceMod]
    rw [if_pos (by omega)]
    simp (disch := first | assumption | omega | exact tb_sm0 | exact tb_sm1 _ | exact tb_sm2 _ _ | exact tb_sm3 _ _ _ | exact tb_sm4 _ _ _ _ | exact Or.inl rfl | exact Or.inr rfl | fail) only [r66_0, r66_1, r66_4, r66_5, r66_8, r66_11, r66_12, r66_13, r66_16, r66_17, r66_20, r66_21, r66_24, r66_25, r66_27, r66_30, r66_33, r66_34, r66_37, r66_38, r66_41, r66_44, r66_47, r66_50, r66_53, r66_56, r66_57]
    exact hQ h T hC hB (Or.inl rfl) hR tb_out.rf
  | succ n ih =>
    intro c h T hc hC hB hR hI hQ
    have g0 := hC.1.f
    have gn := hC.2.1.1.g
    have oB := hB.1.O
    have hc3 : ¬ 300 ≤ c := by omega
    simp (disch := first | assumption | omega | exact tb_sm0 | exact tb_sm1 _ | exact tb_sm2 _ _ | exact tb_sm3 _ _ _ | exact tb_sm4 _ _ _ _ | exact Or.inl rfl | exact Or.inr rfl | fail) only [r66_26, r66_27, r66_30, hc3, nI_add, pk_mul, e_sub, e_div, tb_nmod, e_dec, e_le, e_lt, e_eq, e_eq0, e_lt0, e_0le, e_0lt, e_le0, if_true, if_false, not_true_eq_false, not_false_eq_true, ite_true, ite_false, Nat.reduceAdd, Nat.reduceMul, Nat.reduceLeDiff, Nat.reduceLT, Nat.reduceEqDiff, Nat.reduceSub, ↓reduceIte, Nat.reduceDiv, Nat.reduceMod]
    simp (disch := first | assumption | omega | exact tb_sm0 | exact tb_sm1 _ | exact tb_sm2 _ _ | exact tb_sm3 _ _ _ | exact tb_sm4 _ _ _ _ | exact Or.inl rfl | exact Or.inr rfl | fail) only [r66_0, r66_1, r66_4, r66_5, r66_8, r66_11, r66_12, r66_13, r66_16, r66_17, r66_20, r66_21, r66_24, r66_25, r66_27, r66_30, r66_33, r66_34, r66_37, r66_38, r66_41, r66_44, r66_47, r66_50, r66_53, r66_56, r66_57, g0, gn, tb_vl_some, tb_vl_none, tb_wF_some]
    refine c_slideOnce hB (hC.2.1.2.1.to hR) hI hb (by omega) (by omega) (fun h2 hB2 hF2 => ?_)
    have hC2 := hC.upT (h' := h2) ⟨_, _, _, hB2⟩ (fun q hq => hF2 q (by omega))
    have hR2 : ∀ j, 1 ≤ j → j < 9 → s j = sp_tick T b j := fun j j1 j2 => by rw [sep_tick (by unfold sp_loc; omega)]; exact hR j j1 j2
    have out2 : tb_out h h2 x (x + 198) := fun q hq => hF2 q (by omega)
    unfold sp_r1
    rw [sp_settle] at hQ
    cases hr : sp_rb T b with
    | true =>
      rw [hr, if_pos rfl] at hQ
      have rest := sp_rb_t.mp hr
      simp (disch := first | assumption | omega | exact tb_sm0 | exact tb_sm1 _ | exact tb_sm2 _ _ | exact tb_sm3 _ _ _ | exact tb_sm4 _ _ _ _ | exact Or.inl rfl | exact Or.inr rfl | fail) only [r66_0, r66_1, r66_4, r66_5, r66_8, r66_11, r66_12, r66_13, r66_16, r66_17, r66_20, r66_21, r66_24, r66_25, r66_27, r66_30, r66_33, r66_34, r66_37, r66_38, r66_41, r66_44, r66_47, r66_50, r66_53, r66_56, r66_57, tb_vl_some, tb_vl_none, tb_wF_some, nI_add, pk_mul, e_sub, e_div, tb_nmod, e_dec, e_le, e_lt, e_eq, e_eq0, e_lt0, e_0le, e_0lt, e_le0, if_true, if_false, not_true_eq_false, not_false_eq_true, ite_true, ite_false, Nat.reduceAdd, Nat.reduceMul, Nat.reduceLeDiff, Nat.reduceLT, Nat.reduceEqDiff, Nat.reduceSub, ↓reduceIte, Nat.reduceDiv, Nat.reduceMod, cond_true]
      exact hQ h2 _ hC2 hB2 (Or.inr ⟨rest, rest_tick rest⟩) hR2 out2
    | false =>
      rw [hr, if_neg Bool.false_ne_true] at hQ
      simp (disch := first | assumption | omega | exact tb_sm0 | exact tb_sm1 _ | exact tb_sm2 _ _ | exact tb_sm3 _ _ _ | exact tb_sm4 _ _ _ _ | exact Or.inl rfl | exact Or.inr rfl | fail) only [r66_0, r66_1, r66_4, r66_5, r66_8, r66_11, r66_12, r66_13, r66_16, r66_17, r66_20, r66_21, r66_24, r66_25, r66_27, r66_30, r66_33, r66_34, r66_37, r66_38, r66_41, r66_44, r66_47, r66_50, r66_53, r66_56, r66_57, tb_vl_some, tb_vl_none, tb_wF_some, nI_add, pk_mul, e_sub, e_div, tb_nmod, e_dec, e_le, e_lt, e_eq, e_eq0, e_lt0, e_0le, e_0lt, e_le0, if_true, if_false, not_true_eq_false, not_false_eq_true, ite_true, ite_false, Nat.reduceAdd, Nat.reduceMul, Nat.reduceLeDiff, Nat.reduceLT, Nat.reduceEqDiff, Nat.reduceSub, ↓reduceIte, Nat.reduceDiv, Nat.reduceMod, cond_false]
      refine ih (c + 1) h2 _ (by omega) hC2 hB2 hR2 (sp_I_tick hI hb) (fun h3 F k1 k2 k3 k4 k5 => ?_)
      have q := hQ h3 F k1 k2 k3 k4 (out2.tr k5)
      dsimp only at q
      rw [show c + 1 + (sp_settle b n (sp_tick T b)).2 = c + ((sp_settle b n (sp_tick T b)).2 + 1) by omega]
      exact q
theorem k_try {b a : Nat} (hC : tb_CF h x s hs kn g) (hI : sp_I s) (hb : b < 5) (ha : a ≤ 90) (hd : 4 ≤ d) (hQ : ∀ h' F, tb_CF h' x s hs kn g → tb_B h' (x + 192) F b → (F = (sp_settle b 300 (va_up s (13 + b) a)).1 ∨ (sp_rest (sp_settle b 300 (va_up s (13 + b) a)).1 b ∧ F = sp_wipe (sp_settle b 300 (va_up s (13 + b) a)).1 b)) → (∀ j, 1 ≤ j → j < 9 → s j = F j) → tb_out h h' x (x + 198) → Q (some (.int (nI (sp_settle b 300 (va_up s (13 + b) a)).2))) h' nx) :
    tb_wp E d 66 0 [.ref x, .int (nI b), .int (nI a), .long 0] [] h nx 0 0 Q := by
  have g0 := hC.1.f
  have gn := hC.2.1.1.g
  obtain ⟨ts, mv, i, hT⟩ := hC.2.2.2.2.2.1
  have oT := hT.1.O
  simp (disch := first | assumption | omega | exact tb_sm0 | exact tb_sm1 _ | exact tb_sm2 _ _ | exact tb_sm3 _ _ _ | exact tb_sm4 _ _ _ _ | exact Or.inl rfl | exact Or.inr rfl | fail) only [r66_0, r66_1, r66_4, r66_5, r66_8, r66_11, r66_12, r66_13, r66_16, r66_17, r66_20, r66_21, r66_24, r66_25, r66_27, r66_30, r66_33, r66_34, r66_37, r66_38, r66_41, r66_44, r66_47, r66_50, r66_53, r66_56, r66_57, g0, gn, hC.2.1.A, tb_vl_some, tb_vl_none, tb_wF_some]
  refine c_copyBoard (sp_mb.B hI.2.2.2.2 hb) (hC.2.1.B hb) hT (by unfold tb_ba; omega) (by omega) (fun h2 hB2 hF2 => ?_)
  have hC2 := hC.upT (h' := h2) ⟨_, _, _, hB2⟩ (fun q hq => hF2 q (by omega))
  have g2 := hC2.1.f
  simp (disch := first | assumption | omega | exact tb_sm0 | exact tb_sm1 _ | exact tb_sm2 _ _ | exact tb_sm3 _ _ _ | exact tb_sm4 _ _ _ _ | exact Or.inl rfl | exact Or.inr rfl | fail) only [r66_0, r66_1, r66_4, r66_5, r66_8, r66_11, r66_12, r66_13, r66_16, r66_17, r66_20, r66_21, r66_24, r66_25, r66_27, r66_30, r66_33, r66_34, r66_37, r66_38, r66_41, r66_44, r66_47, r66_50, r66_53, r66_56, r66_57, g2, tb_vl_some, tb_vl_none, tb_wF_some]
  refine hB2.pf hb (Or.inl ⟨rfl, rfl⟩) (fun h3 hB3 hF3 => ?_)
  have hC3 := hC2.upT (h' := h3) ⟨_, _, _, hB3⟩ (fun q hq => hF3 q (by omega))
  try simp (disch := first | assumption | omega | exact tb_sm0 | exact tb_sm1 _ | exact tb_sm2 _ _ | exact tb_sm3 _ _ _ | exact tb_sm4 _ _ _ _ | exact Or.inl rfl | exact Or.inr rfl | fail) only [r66_0, r66_1, r66_4, r66_5, r66_8, r66_11, r66_12, r66_13, r66_16, r66_17, r66_20, r66_21, r66_24, r66_25, r66_27, r66_30, r66_33, r66_34, r66_37, r66_38, r66_41, r66_44, r66_47, r66_50, r66_53, r66_56, r66_57]
  have hB3' : tb_B h3 (x + 192) (va_up s (13 + b) a) b := hB3.to rfl rfl rfl (fun _ _ => rfl) (fun _ _ => rfl) (fun j hj => by unfold tb_mv; rw [va_up_n (by omega)])
  refine k_try_l hb hd 300 0 h3 _ rfl hC3 hB3' (fun j j1 j2 => (va_up_n (by omega)).symm) (sp_I_angle hI hb ha) (fun h4 F k1 k2 k3 k4 k5 => ?_)
  rw [Nat.zero_add]
  exact hQ h4 F k1 k2 k3 k4 (fun q hq => by rw [k5 q hq, hF3 q (by omega), hF2 q (by omega)])
theorem try_lo {b j : Nat} {F R : Nat → Nat} (h : F = R ∨ (sp_rest R b ∧ F = sp_wipe R b)) (hj : j < 208) : F j = R j := by
  rcases h with h | ⟨_, h⟩
  · rw [h]
  · rw [h]; unfold sp_wipe sp_mv; rw [if_neg (by omega)]
theorem try_all {b : Nat} {F R : Nat → Nat} (h : F = R ∨ (sp_rest R b ∧ F = sp_wipe R b)) (hb : b < 5) : sp_all F b = sp_all R b := by
  have e : ∀ c, c < 8 → sp_on F b c = sp_on R b c := fun c hc => sp_on_c (fun k hk => try_lo h (by omega))
  unfold sp_all
  rw [e 0 (by decide), e 1 (by decide), e 2 (by decide), e 3 (by decide), e 4 (by decide), e 5 (by decide), e 6 (by decide), e 7 (by decide)]
theorem try_rb {b : Nat} {F R : Nat → Nat} (h : F = R ∨ (sp_rest R b ∧ F = sp_wipe R b)) (hb : b < 5) : sp_rb F b = sp_rb R b := by
  rcases h with h | ⟨h1, h2⟩
  · rw [h]
  · rw [h2, sp_rb_t.mpr h1, sp_rb_t.mpr (rest_wipe h1 hb)]
theorem try_I {b : Nat} {F R : Nat → Nat} (h : F = R ∨ (sp_rest R b ∧ F = sp_wipe R b)) (hI : sp_I R) (hb : b < 5) : sp_I F := by
  rcases h with h | ⟨h1, h2⟩
  · rw [h]; exact hI
  · rw [h2]; exact sp_I_mv hI hb (fun _ => Nat.zero_le _)
theorem k_restsIn {y : Int32} (hC : tb_CF h x s hs kn g) (hI : sp_I s) (hd : 5 ≤ d) (hQ : ∀ h', tb_CF h' x s hs kn g → tb_out h h' x (x + 198) → Q (some (.int (an_rests s y))) h' nx) :
    tb_wp E d 60 0 [.ref x, .int y, .long 0] [] h nx 0 0 Q := by
  have g0 := hC.1.f
  have oX := hC.1.O
  have gn := hC.2.1.1.g
  rcases tb_gd y (show 4 < 2 ^ 31 by decide) with hb | ⟨b, hb, rfl⟩
  · have e : an_rests s y = -1 := by unfold an_rests; rw [if_pos hb]
    rw [e] at hQ
    simp (disch := first | assumption | omega | exact tb_sm0 | exact tb_sm1 _ | exact tb_sm2 _ _ | exact tb_sm3 _ _ _ | exact tb_sm4 _ _ _ _ | exact Or.inl rfl | exact Or.inr rfl | fail) only [r60_0, r60_1, r60_4, r60_7, r60_8, r60_9, r60_10, r60_11, r60_12, r60_15, r60_18, r60_19, r60_20, r60_23, r60_26, r60_27, r60_28, r60_31, r60_32, r60_35, r60_38, r60_41, r60_44, r60_45, r60_48, r60_50, s_isBoard_no hb, tb_vl_some, tb_vl_none, tb_wF_some, nI_add, pk_mul, e_sub, e_div, tb_nmod, e_dec, e_le, e_lt, e_eq, e_eq0, e_lt0, e_0le, e_0lt, e_le0, if_true, if_false, not_true_eq_false, not_false_eq_true, ite_true, ite_false, Nat.reduceAdd, Nat.reduceMul, Nat.reduceLeDiff, Nat.reduceLT, Nat.reduceEqDiff, Nat.reduceSub, ↓reduceIte, Nat.reduceDiv, Nat.reduceMod]
    exact hQ h hC tb_out.rf
  · have e : an_rests s (nI b) = bif sp_rb (sp_settle b 300 s).1 b then nI (sp_settle b 300 s).2 else -5 := by unfold an_rests; rw [if_neg (e_ok hb (by decide)), sp_n_nI (by omega)]
    rw [e] at hQ
    have hb5 : b < 5 := by omega
    have gb := hC.2.1.gb b hb5
    simp (disch := first | assumption | omega | exact tb_sm0 | exact tb_sm1 _ | exact tb_sm2 _ _ | exact tb_sm3 _ _ _ | exact tb_sm4 _ _ _ _ | exact Or.inl rfl | exact Or.inr rfl | fail) only [r60_0, r60_1, r60_4, r60_7, r60_8, r60_9, r60_10, r60_11, r60_12, r60_15, r60_18, r60_19, r60_20, r60_23, r60_26, r60_27, r60_28, r60_31, r60_32, r60_35, r60_38, r60_41, r60_44, r60_45, r60_48, r60_50, s_isBoard, g0, gn, gb, hC.2.1.A, tb_vl_some, tb_vl_none, tb_wF_some, nI_add, pk_mul, e_sub, e_div, tb_nmod, e_dec, e_le, e_lt, e_eq, e_eq0, e_lt0, e_0le, e_0lt, e_le0, if_true, if_false, not_true_eq_false, not_false_eq_true, ite_true, ite_false, Nat.reduceAdd, Nat.reduceMul, Nat.reduceLeDiff, Nat.reduceLT, Nat.reduceEqDiff, Nat.reduceSub, ↓reduceIte, Nat.reduceDiv, Nat.reduceMod]
    refine k_try hC hI hb5 (hI.2.2.2.1 b hb5) (by omega) (fun h2 F k1 k2 k3 k4 k5 => ?_)
    rw [va_up_id] at k3 ⊢
    have g2 := k1.1.f
    have gn2 := k1.2.1.1.g
    have oT := k2.1.O
    have IR := sp_I_settle hb5 300 s hI
    have rs := fun {Q'} => c_isAtRest (E := E) (d := d - 1) (nx := nx) (Q := Q') k2 (k1.2.1.2.1.to k4) (try_I k3 IR hb5) hb5 (fun _ _ => rfl) (show 3 ≤ d - 1 by omega)
    have q := hQ h2 k1 k5
    unfold sp_r1 at rs
    rw [try_rb k3 hb5] at rs
    cases hr : sp_rb (sp_settle b 300 s).1 b with
    | true =>
      rw [hr] at rs q
      simp (disch := first | assumption | omega | exact tb_sm0 | exact tb_sm1 _ | exact tb_sm2 _ _ | exact tb_sm3 _ _ _ | exact tb_sm4 _ _ _ _ | exact Or.inl rfl | exact Or.inr rfl | fail) only [r60_0, r60_1, r60_4, r60_7, r60_8, r60_9, r60_10, r60_11, r60_12, r60_15, r60_18, r60_19, r60_20, r60_23, r60_26, r60_27, r60_28, r60_31, r60_32, r60_35, r60_38, r60_41, r60_44, r60_45, r60_48, r60_50, g2, gn2, rs, tb_vl_some, tb_vl_none, tb_wF_some, nI_add, pk_mul, e_sub, e_div, tb_nmod, e_dec, e_le, e_lt, e_eq, e_eq0, e_lt0, e_0le, e_0lt, e_le0, if_true, if_false, not_true_eq_false, not_false_eq_true, ite_true, ite_false, Nat.reduceAdd, Nat.reduceMul, Nat.reduceLeDiff, Nat.reduceLT, Nat.reduceEqDiff, Nat.reduceSub, ↓reduceIte, Nat.reduceDiv, Nat.reduceMod, cond_true]
      exact q
    | false =>
      rw [hr] at rs q
      simp (disch := first | assumption | omega | exact tb_sm0 | exact tb_sm1 _ | exact tb_sm2 _ _ | exact tb_sm3 _ _ _ | exact tb_sm4 _ _ _ _ | exact Or.inl rfl | exact Or.inr rfl | fail) only [r60_0, r60_1, r60_4, r60_7, r60_8, r60_9, r60_10, r60_11, r60_12, r60_15, r60_18, r60_19, r60_20, r60_23, r60_26, r60_27, r60_28, r60_31, r60_32, r60_35, r60_38, r60_41, r60_44, r60_45, r60_48, r60_50, g2, gn2, rs, tb_vl_some, tb_vl_none, tb_wF_some, nI_add, pk_mul, e_sub, e_div, tb_nmod, e_dec, e_le, e_lt, e_eq, e_eq0, e_lt0, e_0le, e_0lt, e_le0, if_true, if_false, not_true_eq_false, not_false_eq_true, ite_true, ite_false, Nat.reduceAdd, Nat.reduceMul, Nat.reduceLeDiff, Nat.reduceLT, Nat.reduceEqDiff, Nat.reduceSub, ↓reduceIte, Nat.reduceDiv, Nat.reduceMod, cond_false]
      exact q
theorem k_ifTilted {y z w : Int32} (hC : tb_CF h x s hs kn g) (hI : sp_I s) (hd : 5 ≤ d) (hQ : ∀ h', tb_CF h' x s hs kn g → tb_out h h' x (x + 198) → Q (some (.int (an_til s y z w))) h' nx) :
    tb_wp E d 61 0 [.ref x, .int y, .int z, .int w, .long 0] [] h nx 0 0 Q := by
  have g0 := hC.1.f
  have oX := hC.1.O
  rcases tb_gd y (show 4 < 2 ^ 31 by decide) with hb | ⟨b, hb, rfl⟩
  · have e : an_til s y z w = -1 := by unfold an_til; rw [if_pos hb]
    rw [e] at hQ
    simp (disch := first | assumption | omega | exact tb_sm0 | exact tb_sm1 _ | exact tb_sm2 _ _ | exact tb_sm3 _ _ _ | exact tb_sm4 _ _ _ _ | exact Or.inl rfl | exact Or.inr rfl | fail) only [r61_0, r61_1, r61_4, r61_7, r61_8, r61_9, r61_10, r61_11, r61_13, r61_16, r61_19, r61_20, r61_21, r61_22, r61_25, r61_28, r61_30, r61_31, r61_32, r61_33, r61_34, r61_37, r61_39, r61_40_0, r61_40_1, r61_40_2, r61_40_d, r61_68, r61_70, r61_71, r61_72, r61_75, r61_78, r61_79, r61_82, r61_85, r61_86, r61_87, r61_90, r61_91, r61_92, r61_93, r61_96, r61_99, r61_100, r61_103, r61_106, r61_107, r61_108, r61_111, r61_112, r61_113, r61_114, r61_117, r61_120, s_isBoard_no hb, tb_vl_some, tb_vl_none, tb_wF_some, nI_add, pk_mul, e_sub, e_div, tb_nmod, e_dec, e_le, e_lt, e_eq, e_eq0, e_lt0, e_0le, e_0lt, e_le0, if_true, if_false, not_true_eq_false, not_false_eq_true, ite_true, ite_false, Nat.reduceAdd, Nat.reduceMul, Nat.reduceLeDiff, Nat.reduceLT, Nat.reduceEqDiff, Nat.reduceSub, ↓reduceIte, Nat.reduceDiv, Nat.reduceMod]
    exact hQ h hC tb_out.rf
  · rcases tb_gd z (show 90 < 2 ^ 31 by decide) with ha | ⟨a, ha, rfl⟩
    · have e : an_til s (nI b) z w = -2 := by unfold an_til; rw [if_neg (e_ok hb (by decide)), if_pos (Or.inl ha)]
      rw [e] at hQ
      simp (disch := first | assumption | omega | exact tb_sm0 | exact tb_sm1 _ | exact tb_sm2 _ _ | exact tb_sm3 _ _ _ | exact tb_sm4 _ _ _ _ | exact Or.inl rfl | exact Or.inr rfl | fail) only [r61_0, r61_1, r61_4, r61_7, r61_8, r61_9, r61_10, r61_11, r61_13, r61_16, r61_19, r61_20, r61_21, r61_22, r61_25, r61_28, r61_30, r61_31, r61_32, r61_33, r61_34, r61_37, r61_39, r61_40_0, r61_40_1, r61_40_2, r61_40_d, r61_68, r61_70, r61_71, r61_72, r61_75, r61_78, r61_79, r61_82, r61_85, r61_86, r61_87, r61_90, r61_91, r61_92, r61_93, r61_96, r61_99, r61_100, r61_103, r61_106, r61_107, r61_108, r61_111, r61_112, r61_113, r61_114, r61_117, r61_120, s_isBoard, s_isWithin_no ha, tb_vl_some, tb_vl_none, tb_wF_some, nI_add, pk_mul, e_sub, e_div, tb_nmod, e_dec, e_le, e_lt, e_eq, e_eq0, e_lt0, e_0le, e_0lt, e_le0, if_true, if_false, not_true_eq_false, not_false_eq_true, ite_true, ite_false, Nat.reduceAdd, Nat.reduceMul, Nat.reduceLeDiff, Nat.reduceLT, Nat.reduceEqDiff, Nat.reduceSub, ↓reduceIte, Nat.reduceDiv, Nat.reduceMod]
      exact hQ h hC tb_out.rf
    · rcases tb_gd w (show 3 < 2 ^ 31 by decide) with hw | ⟨w, hw, rfl⟩
      · have e : an_til s (nI b) (nI a) w = -2 := by unfold an_til; rw [if_neg (e_ok hb (by decide)), if_pos (Or.inr hw)]
        rw [e] at hQ
        simp (disch := first | assumption | omega | exact tb_sm0 | exact tb_sm1 _ | exact tb_sm2 _ _ | exact tb_sm3 _ _ _ | exact tb_sm4 _ _ _ _ | exact Or.inl rfl | exact Or.inr rfl | fail) only [r61_0, r61_1, r61_4, r61_7, r61_8, r61_9, r61_10, r61_11, r61_13, r61_16, r61_19, r61_20, r61_21, r61_22, r61_25, r61_28, r61_30, r61_31, r61_32, r61_33, r61_34, r61_37, r61_39, r61_40_0, r61_40_1, r61_40_2, r61_40_d, r61_68, r61_70, r61_71, r61_72, r61_75, r61_78, r61_79, r61_82, r61_85, r61_86, r61_87, r61_90, r61_91, r61_92, r61_93, r61_96, r61_99, r61_100, r61_103, r61_106, r61_107, r61_108, r61_111, r61_112, r61_113, r61_114, r61_117, r61_120, s_isBoard, s_isWithin (Nat.zero_le a) ha (by decide), s_isWithin_no hw, tb_vl_some, tb_vl_none, tb_wF_some, nI_add, pk_mul, e_sub, e_div, tb_nmod, e_dec, e_le, e_lt, e_eq, e_eq0, e_lt0, e_0le, e_0lt, e_le0, if_true, if_false, not_true_eq_false, not_false_eq_true, ite_true, ite_false, Nat.reduceAdd, Nat.reduceMul, Nat.reduceLeDiff, Nat.reduceLT, Nat.reduceEqDiff, Nat.reduceSub, ↓reduceIte, Nat.reduceDiv, Nat.reduceMod]
        exact hQ h hC tb_out.rf
      · have e : an_til s (nI b) (nI a) (nI w) = sp_til s b a w := by
          unfold an_til
          rw [if_neg (e_ok hb (by decide)), if_neg (fun q => q.elim (e_ok ha (by decide)) (e_ok hw (by decide))), sp_n_nI (by omega), sp_n_nI (by omega), sp_n_nI (by omega)]
        rw [e] at hQ
        have hb5 : b < 5 := by omega
        simp (disch := first | assumption | omega | exact tb_sm0 | exact tb_sm1 _ | exact tb_sm2 _ _ | exact tb_sm3 _ _ _ | exact tb_sm4 _ _ _ _ | exact Or.inl rfl | exact Or.inr rfl | fail) only [r61_0, r61_1, r61_4, r61_7, r61_8, r61_9, r61_10, r61_11, r61_13, r61_16, r61_19, r61_20, r61_21, r61_22, r61_25, r61_28, r61_30, r61_31, r61_32, r61_33, r61_34, r61_37, r61_39, r61_40_0, r61_40_1, r61_40_2, r61_40_d, r61_68, r61_70, r61_71, r61_72, r61_75, r61_78, r61_79, r61_82, r61_85, r61_86, r61_87, r61_90, r61_91, r61_92, r61_93, r61_96, r61_99, r61_100, r61_103, r61_106, r61_107, r61_108, r61_111, r61_112, r61_113, r61_114, r61_117, r61_120, s_isBoard, s_isWithin (Nat.zero_le a) ha (by decide), s_isWithin (Nat.zero_le w) hw (by decide), tb_vl_some, tb_vl_none, tb_wF_some, nI_add, pk_mul, e_sub, e_div, tb_nmod, e_dec, e_le, e_lt, e_eq, e_eq0, e_lt0, e_0le, e_0lt, e_le0, if_true, if_false, not_true_eq_false, not_false_eq_true, ite_true, ite_false, Nat.reduceAdd, Nat.reduceMul, Nat.reduceLeDiff, Nat.reduceLT, Nat.reduceEqDiff, Nat.reduceSub, ↓reduceIte, Nat.reduceDiv, Nat.reduceMod]
        refine k_try hC hI hb5 ha (by omega) (fun h2 F k1 k2 k3 k4 k5 => ?_)
        have g2 := k1.1.f
        have gn2 := k1.2.1.1.g
        have gb2 := k1.2.1.gb b hb5
        have gt := k2.1.g
        have oT := k2.1.O
        rw [try_lo k3 (show 18 + b < 208 by omega), try_lo k3 (show 23 + b < 208 by omega)] at gt
        have ta := try_all k3 hb5
        have q := hQ h2 k1 k5
        unfold sp_til at q
        dsimp only at q
        rcases (by omega : w = 0 ∨ w = 1 ∨ w = 2 ∨ w = 3) with rfl | rfl | rfl | rfl
        · rw [if_pos rfl] at q
          simp (disch := first | assumption | omega | exact tb_sm0 | exact tb_sm1 _ | exact tb_sm2 _ _ | exact tb_sm3 _ _ _ | exact tb_sm4 _ _ _ _ | exact Or.inl rfl | exact Or.inr rfl | fail) only [r61_0, r61_1, r61_4, r61_7, r61_8, r61_9, r61_10, r61_11, r61_13, r61_16, r61_19, r61_20, r61_21, r61_22, r61_25, r61_28, r61_30, r61_31, r61_32, r61_33, r61_34, r61_37, r61_39, r61_40_0, r61_40_1, r61_40_2, r61_40_d, r61_68, r61_70, r61_71, r61_72, r61_75, r61_78, r61_79, r61_82, r61_85, r61_86, r61_87, r61_90, r61_91, r61_92, r61_93, r61_96, r61_99, r61_100, r61_103, r61_106, r61_107, r61_108, r61_111, r61_112, r61_113, r61_114, r61_117, r61_120, tb_vl_some, tb_vl_none, tb_wF_some]
          exact q
        · rw [if_neg (by decide), if_pos rfl] at q
          simp (disch := first | assumption | omega | exact tb_sm0 | exact tb_sm1 _ | exact tb_sm2 _ _ | exact tb_sm3 _ _ _ | exact tb_sm4 _ _ _ _ | exact Or.inl rfl | exact Or.inr rfl | fail) only [r61_0, r61_1, r61_4, r61_7, r61_8, r61_9, r61_10, r61_11, r61_13, r61_16, r61_19, r61_20, r61_21, r61_22, r61_25, r61_28, r61_30, r61_31, r61_32, r61_33, r61_34, r61_37, r61_39, r61_40_0, r61_40_1, r61_40_2, r61_40_d, r61_68, r61_70, r61_71, r61_72, r61_75, r61_78, r61_79, r61_82, r61_85, r61_86, r61_87, r61_90, r61_91, r61_92, r61_93, r61_96, r61_99, r61_100, r61_103, r61_106, r61_107, r61_108, r61_111, r61_112, r61_113, r61_114, r61_117, r61_120, g2, gn2, gb2, gt, k1.2.1.A, tb_vl_some, tb_vl_none, tb_wF_some]
          exact q
        · rw [if_neg (by decide), if_neg (by decide), if_pos rfl] at q
          simp (disch := first | assumption | omega | exact tb_sm0 | exact tb_sm1 _ | exact tb_sm2 _ _ | exact tb_sm3 _ _ _ | exact tb_sm4 _ _ _ _ | exact Or.inl rfl | exact Or.inr rfl | fail) only [r61_0, r61_1, r61_4, r61_7, r61_8, r61_9, r61_10, r61_11, r61_13, r61_16, r61_19, r61_20, r61_21, r61_22, r61_25, r61_28, r61_30, r61_31, r61_32, r61_33, r61_34, r61_37, r61_39, r61_40_0, r61_40_1, r61_40_2, r61_40_d, r61_68, r61_70, r61_71, r61_72, r61_75, r61_78, r61_79, r61_82, r61_85, r61_86, r61_87, r61_90, r61_91, r61_92, r61_93, r61_96, r61_99, r61_100, r61_103, r61_106, r61_107, r61_108, r61_111, r61_112, r61_113, r61_114, r61_117, r61_120, g2, gn2, gb2, gt, k1.2.1.A, tb_vl_some, tb_vl_none, tb_wF_some]
          exact q
        · rw [if_neg (by decide), if_neg (by decide), if_neg (by decide)] at q
          have z1 : (nI 3).toInt < 0 ∨ 2 < (nI 3).toInt := by decide
          simp (disch := first | assumption | omega | exact tb_sm0 | exact tb_sm1 _ | exact tb_sm2 _ _ | exact tb_sm3 _ _ _ | exact tb_sm4 _ _ _ _ | exact Or.inl rfl | exact Or.inr rfl | fail) only [r61_0, r61_1, r61_4, r61_7, r61_8, r61_9, r61_10, r61_11, r61_13, r61_16, r61_19, r61_20, r61_21, r61_22, r61_25, r61_28, r61_30, r61_31, r61_32, r61_33, r61_34, r61_37, r61_39, r61_40_0, r61_40_1, r61_40_2, r61_40_d, r61_68, r61_70, r61_71, r61_72, r61_75, r61_78, r61_79, r61_82, r61_85, r61_86, r61_87, r61_90, r61_91, r61_92, r61_93, r61_96, r61_99, r61_100, r61_103, r61_106, r61_107, r61_108, r61_111, r61_112, r61_113, r61_114, r61_117, r61_120, g2, c_grainsOnCells k2, ta, tb_vl_some, tb_vl_none, tb_wF_some]
          exact q
theorem k_clr_l {b : Nat} (hI : sp_I s) (hb : b < 5) (hd : 5 ≤ d) (n : Nat) : ∀ (h : tb_heap) (i : Nat), i + n = 91 → tb_CF h x s hs kn g → (∀ h', tb_CF h' x s hs kn g → tb_out h h' x (x + 198) → Q (some (.int (sp_clr s b n))) h' nx) →
    tb_wp E d 62 11 [.ref x, .int (nI b), .int (nI i)] [] h nx 0 0 Q := by
  induction n with
  | zero =>
    intro h i hi hC hQ
    have e : i = 91 := by omega
    subst e
    simp (disch := first | assumption | omega | exact tb_sm0 | exact tb_sm1 _ | exact tb_sm2 _ _ | exact tb_sm3 _ _ _ | exact tb_sm4 _ _ _ _ | exact Or.inl rfl | exact Or.inr rfl | fail) only [r62_0, r62_1, r62_4, r62_7, r62_8, r62_9, r62_10, r62_11, r62_12, r62_14, r62_17, r62_18, r62_19, r62_20, r62_23, r62_24, r62_25, r62_28, r62_31, r62_34, r62_35, r62_36, r62_39, r62_42, r62_44, nI_add, pk_mul, e_sub, e_div, tb_nmod, e_dec, e_le, e_lt, e_eq, e_eq0, e_lt0, e_0le, e_0lt, e_le0, if_true, if_false, not_true_eq_false, not_false_eq_true, ite_true, ite_false, Nat.reduceAdd, Nat.reduceMul, Nat.reduceLeDiff, Nat.reduceLT, Nat.reduceEqDiff, Nat.reduceSub, ↓reduceIte, Nat.reduceDiv, Nat.reduceMod]
    exact hQ h hC tb_out.rf
  | succ n ih =>
    intro h i hi hC hQ
    have g0 := hC.1.f
    have oX := hC.1.O
    have hi90 : ¬ 90 < i := by omega
    simp (disch := first | assumption | omega | exact tb_sm0 | exact tb_sm1 _ | exact tb_sm2 _ _ | exact tb_sm3 _ _ _ | exact tb_sm4 _ _ _ _ | exact Or.inl rfl | exact Or.inr rfl | fail) only [r62_11, r62_12, r62_14, hi90, nI_add, pk_mul, e_sub, e_div, tb_nmod, e_dec, e_le, e_lt, e_eq, e_eq0, e_lt0, e_0le, e_0lt, e_le0, if_true, if_false, not_true_eq_false, not_false_eq_true, ite_true, ite_false, Nat.reduceAdd, Nat.reduceMul, Nat.reduceLeDiff, Nat.reduceLT, Nat.reduceEqDiff, Nat.reduceSub, ↓reduceIte, Nat.reduceDiv, Nat.reduceMod]
    simp (disch := first | assumption | omega | exact tb_sm0 | exact tb_sm1 _ | exact tb_sm2 _ _ | exact tb_sm3 _ _ _ | exact tb_sm4 _ _ _ _ | exact Or.inl rfl | exact Or.inr rfl | fail) only [r62_0, r62_1, r62_4, r62_7, r62_8, r62_9, r62_10, r62_12, r62_14, r62_17, r62_18, r62_19, r62_20, r62_23, r62_24, r62_25, r62_28, r62_31, r62_34, r62_35, r62_36, r62_39, r62_42, r62_44]
    refine k_try hC hI hb (by omega) (by omega) (fun h2 F k1 k2 k3 k4 k5 => ?_)
    have g2 := k1.1.f
    have oT := k2.1.O
    have ta := try_all k3 hb
    rw [sp_clr, show 90 - n = i by omega] at hQ
    have et : sp_til s b i 3 = nI (sp_all (sp_settle b 300 (va_up s (13 + b) i)).1 b) := by
      unfold sp_til
      dsimp only
      rw [if_neg (by decide), if_neg (by decide), if_neg (by decide)]
    rw [et] at hQ
    by_cases c : nI (sp_all (sp_settle b 300 (va_up s (13 + b) i)).1 b) = 0
    · rw [if_pos c] at hQ
      simp (disch := first | assumption | omega | exact tb_sm0 | exact tb_sm1 _ | exact tb_sm2 _ _ | exact tb_sm3 _ _ _ | exact tb_sm4 _ _ _ _ | exact Or.inl rfl | exact Or.inr rfl | fail) only [r62_0, r62_1, r62_4, r62_7, r62_8, r62_9, r62_10, r62_12, r62_14, r62_17, r62_18, r62_19, r62_20, r62_23, r62_24, r62_25, r62_28, r62_31, r62_34, r62_35, r62_36, r62_39, r62_42, r62_44, g2, c_grainsOnCells k2, ta, c, tb_vl_some, tb_vl_none, tb_wF_some, not_true_eq_false, if_true, if_false, ↓reduceIte]
      exact hQ h2 k1 k5
    · rw [if_neg c] at hQ
      simp (disch := first | assumption | omega | exact tb_sm0 | exact tb_sm1 _ | exact tb_sm2 _ _ | exact tb_sm3 _ _ _ | exact tb_sm4 _ _ _ _ | exact Or.inl rfl | exact Or.inr rfl | fail) only [r62_0, r62_1, r62_4, r62_7, r62_8, r62_9, r62_10, r62_12, r62_14, r62_17, r62_18, r62_19, r62_20, r62_23, r62_24, r62_25, r62_28, r62_31, r62_34, r62_35, r62_36, r62_39, r62_42, r62_44, g2, c_grainsOnCells k2, ta, c, tb_vl_some, tb_vl_none, tb_wF_some, not_false_eq_true, if_true, if_false, ↓reduceIte, nI_add]
      exact ih h2 (i + 1) (by omega) k1 (fun h3 h31 h32 => hQ h3 h31 (k5.tr h32))
theorem k_clearingAngle {y : Int32} (hC : tb_CF h x s hs kn g) (hI : sp_I s) (hd : 5 ≤ d) (hQ : ∀ h', tb_CF h' x s hs kn g → tb_out h h' x (x + 198) → Q (some (.int (an_clr s y))) h' nx) :
    tb_wp E d 62 0 [.ref x, .int y, .long 0] [] h nx 0 0 Q := by
  rcases tb_gd y (show 4 < 2 ^ 31 by decide) with hb | ⟨b, hb, rfl⟩
  · have e : an_clr s y = -1 := by unfold an_clr; rw [if_pos hb]
    rw [e] at hQ
    simp (disch := first | assumption | omega | exact tb_sm0 | exact tb_sm1 _ | exact tb_sm2 _ _ | exact tb_sm3 _ _ _ | exact tb_sm4 _ _ _ _ | exact Or.inl rfl | exact Or.inr rfl | fail) only [r62_0, r62_1, r62_4, r62_7, r62_8, r62_9, r62_10, r62_12, r62_14, r62_17, r62_18, r62_19, r62_20, r62_23, r62_24, r62_25, r62_28, r62_31, r62_34, r62_35, r62_36, r62_39, r62_42, r62_44, s_isBoard_no hb, tb_vl_some, tb_vl_none, tb_wF_some, nI_add, pk_mul, e_sub, e_div, tb_nmod, e_dec, e_le, e_lt, e_eq, e_eq0, e_lt0, e_0le, e_0lt, e_le0, if_true, if_false, not_true_eq_false, not_false_eq_true, ite_true, ite_false, Nat.reduceAdd, Nat.reduceMul, Nat.reduceLeDiff, Nat.reduceLT, Nat.reduceEqDiff, Nat.reduceSub, ↓reduceIte, Nat.reduceDiv, Nat.reduceMod]
    exact hQ h hC tb_out.rf
  · have e : an_clr s (nI b) = sp_clr s b 91 := by unfold an_clr; rw [if_neg (e_ok hb (by decide)), sp_n_nI (by omega)]
    rw [e] at hQ
    simp (disch := first | assumption | omega | exact tb_sm0 | exact tb_sm1 _ | exact tb_sm2 _ _ | exact tb_sm3 _ _ _ | exact tb_sm4 _ _ _ _ | exact Or.inl rfl | exact Or.inr rfl | fail) only [r62_0, r62_1, r62_4, r62_7, r62_8, r62_9, r62_10, r62_12, r62_14, r62_17, r62_18, r62_19, r62_20, r62_23, r62_24, r62_25, r62_28, r62_31, r62_34, r62_35, r62_36, r62_39, r62_42, r62_44, s_isBoard, tb_vl_some, tb_vl_none, tb_wF_some, nI_add, pk_mul, e_sub, e_div, tb_nmod, e_dec, e_le, e_lt, e_eq, e_eq0, e_lt0, e_0le, e_0lt, e_le0, if_true, if_false, not_true_eq_false, not_false_eq_true, ite_true, ite_false, Nat.reduceAdd, Nat.reduceMul, Nat.reduceLeDiff, Nat.reduceLT, Nat.reduceEqDiff, Nat.reduceSub, ↓reduceIte, Nat.reduceDiv, Nat.reduceMod]
    exact k_clr_l hI (by omega) hd 91 h 0 rfl hC hQ
end C11
