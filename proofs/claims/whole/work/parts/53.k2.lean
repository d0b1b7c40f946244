/-! THE CLASS ITSELF: texts, history, what would be -/
theorem va_up_id (f : Nat → Nat) (k : Nat) : va_up f k (f k) = f := by
  funext j
  unfold va_up
  split
  · rename_i q; rw [q]
  · rfl
section C11
variable {E : tb_env} {d : Nat} {h : tb_heap} {nx : Nat} {Q : Option Value → tb_heap → Nat → Prop} {x kn : Nat} {s : Nat → Nat} {hs : Nat → Nat → Nat} {g : sp_G}
theorem k_type_f {c : Int32} (hC : tb_CF h x s hs kn g) (h60 : g.2.2.2.1 = 60) (hd : 1 ≤ d) : tb_wp E d 63 0 [.ref x, .int c] [] h nx 0 0 Q = Q (some (.int (-3))) h nx := by
  have g0 := hC.1.f
  obtain ⟨r, v, hP, hv⟩ := hC.2.2.2.2.2.2
  rw [h60] at hP
  have oT := hP.O
  simp (disch := first | assumption | omega | exact tb_sm0 | exact tb_sm1 _ | exact tb_sm2 _ _ | exact tb_sm3 _ _ _ | exact tb_sm4 _ _ _ _ | exact Or.inl rfl | exact Or.inr rfl | fail) only [r63_0, r63_1, r63_4, r63_5, r63_8, g0, o_append_f hP, tb_vl_some, tb_vl_none, tb_wF_some]
theorem k_type {c : Nat} (hC : tb_CF h x s hs kn g) (h60 : g.2.2.2.1 < 60) (hc : c < 65536) (hd : 1 ≤ d) (hQ : ∀ h', tb_CF h' x s hs kn (g.1, g.2.1, va_up g.2.2.1 g.2.2.2.1 c, g.2.2.2.1 + 1, g.2.2.2.2) → tb_out h h' x (x + 198) → Q (some (.int (nI (g.2.2.2.1 + 1)))) h' nx) :
    tb_wp E d 63 0 [.ref x, .int (nI c)] [] h nx 0 0 Q := by
  have g0 := hC.1.f
  obtain ⟨r, v, hP, hv⟩ := hC.2.2.2.2.2.2
  have oT := hP.O
  simp (disch := first | assumption | omega | exact tb_sm0 | exact tb_sm1 _ | exact tb_sm2 _ _ | exact tb_sm3 _ _ _ | exact tb_sm4 _ _ _ _ | exact Or.inl rfl | exact Or.inr rfl | fail) only [r63_0, r63_1, r63_4, r63_5, r63_8, g0, tb_vl_some, tb_vl_none, tb_wF_some]
  refine o_append hP h60 hc (fun h2 hP2 hF2 => ?_)
  try simp (disch := first | assumption | omega | exact tb_sm0 | exact tb_sm1 _ | exact tb_sm2 _ _ | exact tb_sm3 _ _ _ | exact tb_sm4 _ _ _ _ | exact Or.inl rfl | exact Or.inr rfl | fail) only [r63_0, r63_1, r63_4, r63_5, r63_8, tb_vl_some, tb_vl_none, tb_wF_some]
  exact hQ h2 (hC.upX ⟨r, v, hP2, hv⟩ (fun q hq => hF2 q (by omega) (by omega))) (fun q hq => hF2 q (by omega) (by omega))
theorem k_clearText (hC : tb_CF h x s hs kn g) (hd : 1 ≤ d) (hQ : ∀ h', tb_CF h' x s hs kn (g.1, g.2.1, g.2.2.1, 0, g.2.2.2.2) → tb_out h h' x (x + 198) → Q (some (.int (nI g.2.2.2.1))) h' nx) :
    tb_wp E d 64 0 [.ref x] [] h nx 0 0 Q := by
  have g0 := hC.1.f
  obtain ⟨r, v, hP, hv⟩ := hC.2.2.2.2.2.2
  have oT := hP.O
  simp (disch := first | assumption | omega | exact tb_sm0 | exact tb_sm1 _ | exact tb_sm2 _ _ | exact tb_sm3 _ _ _ | exact tb_sm4 _ _ _ _ | exact Or.inl rfl | exact Or.inr rfl | fail) only [r64_0, r64_1, r64_4, r64_7, g0, tb_vl_some, tb_vl_none, tb_wF_some]
  refine o_clear hP (fun h2 hP2 hF2 => ?_)
  try simp (disch := first | assumption | omega | exact tb_sm0 | exact tb_sm1 _ | exact tb_sm2 _ _ | exact tb_sm3 _ _ _ | exact tb_sm4 _ _ _ _ | exact Or.inl rfl | exact Or.inr rfl | fail) only [r64_0, r64_1, r64_4, r64_7, tb_vl_some, tb_vl_none, tb_wF_some]
  exact hQ h2 (hC.upX ⟨r, v, hP2, hv⟩ (fun q hq => hF2 q (by omega))) (fun q hq => hF2 q (by omega))
theorem k_stopped {y : Int32} (hC : tb_CF h x s hs kn g) (hd : 1 ≤ d) : tb_wp E d 66 0 [.ref x, .int y] [] h nx 0 0 Q = Q (some (.int (an_stop g.2.2.2.2.1 g.2.2.2.2.2 y))) h nx := by
  have g0 := hC.1.f
  unfold an_stop
  rcases tb_gd y (show 1 < 2 ^ 31 by decide) with hb | ⟨j, hj, rfl⟩
  · have n0 : ¬ y = 0 := fun q => by rw [q] at hb; exact absurd hb (by decide)
    have n1 : ¬ y = nI 1 := fun q => by rw [q] at hb; exact absurd hb (by decide)
    rw [if_neg n0, if_neg n1]
    simp (disch := first | assumption | omega | exact tb_sm0 | exact tb_sm1 _ | exact tb_sm2 _ _ | exact tb_sm3 _ _ _ | exact tb_sm4 _ _ _ _ | exact Or.inl rfl | exact Or.inr rfl | fail) only [r66_0, r66_1, r66_2, r66_3, r66_6, r66_9, r66_11, r66_12, r66_13, r66_16, r66_17, r66_20, r66_23, r66_24, r66_27, s_isWithin_no hb, tb_vl_some, tb_vl_none, tb_wF_some, nI_add, pk_mul, e_sub, e_div, tb_nmod, e_dec, e_le, e_lt, e_eq, e_eq0, e_lt0, e_0le, e_0lt, e_le0, if_true, if_false, not_true_eq_false, not_false_eq_true, ite_true, ite_false, Nat.reduceAdd, Nat.reduceMul, Nat.reduceLeDiff, Nat.reduceLT, Nat.reduceEqDiff, Nat.reduceSub, ↓reduceIte, Nat.reduceDiv, Nat.reduceMod]
  · rcases (by omega : j = 0 ∨ j = 1) with rfl | rfl
    · rw [if_pos (by decide)]
      simp (disch := first | assumption | omega | exact tb_sm0 | exact tb_sm1 _ | exact tb_sm2 _ _ | exact tb_sm3 _ _ _ | exact tb_sm4 _ _ _ _ | exact Or.inl rfl | exact Or.inr rfl | fail) only [r66_0, r66_1, r66_2, r66_3, r66_6, r66_9, r66_11, r66_12, r66_13, r66_16, r66_17, r66_20, r66_23, r66_24, r66_27, s_isWithin (show 0 ≤ 0 by decide) (show 0 ≤ 1 by decide) (show 1 < 2 ^ 31 by decide), g0, tb_vl_some, tb_vl_none, tb_wF_some, nI_add, pk_mul, e_sub, e_div, tb_nmod, e_dec, e_le, e_lt, e_eq, e_eq0, e_lt0, e_0le, e_0lt, e_le0, if_true, if_false, not_true_eq_false, not_false_eq_true, ite_true, ite_false, Nat.reduceAdd, Nat.reduceMul, Nat.reduceLeDiff, Nat.reduceLT, Nat.reduceEqDiff, Nat.reduceSub, ↓reduceIte, Nat.reduceDiv, Nat.reduceMod]
    · rw [if_neg (by decide), if_pos rfl]
      simp (disch := first | assumption | omega | exact tb_sm0 | exact tb_sm1 _ | exact tb_sm2 _ _ | exact tb_sm3 _ _ _ | exact tb_sm4 _ _ _ _ | exact Or.inl rfl | exact Or.inr rfl | fail) only [r66_0, r66_1, r66_2, r66_3, r66_6, r66_9, r66_11, r66_12, r66_13, r66_16, r66_17, r66_20, r66_23, r66_24, r66_27, s_isWithin (show 0 ≤ 1 by decide) (show 1 ≤ 1 by decide) (show 1 < 2 ^ 31 by decide), g0, tb_vl_some, tb_vl_none, tb_wF_some, nI_add, pk_mul, e_sub, e_div, tb_nmod, e_dec, e_le, e_lt, e_eq, e_eq0, e_lt0, e_0le, e_0lt, e_le0, if_true, if_false, not_true_eq_false, not_false_eq_true, ite_true, ite_false, Nat.reduceAdd, Nat.reduceMul, Nat.reduceLeDiff, Nat.reduceLT, Nat.reduceEqDiff, Nat.reduceSub, ↓reduceIte, Nat.reduceDiv, Nat.reduceMod]
theorem tb_Hi.gh (hH : tb_Hi h x hs kn) : tb_gf h (x + 82) 1 2 = some (.int (nI kn)) ∧ tb_isO h (x + 82) 1 ∧ kn ≤ 4 := by
  obtain ⟨o, hst, -, hk, h0, -⟩ := hH
  exact ⟨h0.g.2.2, ⟨_, h0⟩, hk⟩
theorem k_undo_0 (hC : tb_CF h x s hs 0 g) : tb_wp E d 67 0 [.ref x] [] h nx 0 0 Q = Q (some (.int (-5))) h nx := by
  have g0 := hC.1.f
  have gh := hC.2.2.2.2.1.gh
  simp (disch := first | assumption | omega | exact tb_sm0 | exact tb_sm1 _ | exact tb_sm2 _ _ | exact tb_sm3 _ _ _ | exact tb_sm4 _ _ _ _ | exact Or.inl rfl | exact Or.inr rfl | fail) only [r67_0, r67_1, r67_4, r67_7, r67_10, r67_12, r67_13, r67_14, r67_17, r67_18, r67_21, r67_24, r67_25, r67_28, r67_31, g0, gh, tb_vl_some, tb_vl_none, tb_wF_some, nI_add, pk_mul, e_sub, e_div, tb_nmod, e_dec, e_le, e_lt, e_eq, e_eq0, e_lt0, e_0le, e_0lt, e_le0, if_true, if_false, not_true_eq_false, not_false_eq_true, ite_true, ite_false, Nat.reduceAdd, Nat.reduceMul, Nat.reduceLeDiff, Nat.reduceLT, Nat.reduceEqDiff, Nat.reduceSub, ↓reduceIte, Nat.reduceDiv, Nat.reduceMod]
theorem k_undo (hC : tb_CF h x s hs (kn + 1) g) (hm : sp_mb (hs kn)) (hd : 4 ≤ d) (hQ : ∀ h', tb_CF h' x (hs kn) hs kn g → tb_out h h' x (x + 198) → Q (some (.int (nI kn))) h' nx) :
    tb_wp E d 67 0 [.ref x] [] h nx 0 0 Q := by
  have g0 := hC.1.f
  obtain ⟨gh, oH, hk⟩ := hC.2.2.2.2.1.gh
  have hne : ¬ kn + 1 = 0 := by omega
  simp (disch := first | assumption | omega | exact tb_sm0 | exact tb_sm1 _ | exact tb_sm2 _ _ | exact tb_sm3 _ _ _ | exact tb_sm4 _ _ _ _ | exact Or.inl rfl | exact Or.inr rfl | fail) only [r67_0, r67_1, r67_4, r67_7, r67_10, r67_12, r67_13, r67_14, r67_17, r67_18, r67_21, r67_24, r67_25, r67_28, r67_31, g0, gh, hne, tb_vl_some, tb_vl_none, tb_wF_some, nI_add, pk_mul, e_sub, e_div, tb_nmod, e_dec, e_le, e_lt, e_eq, e_eq0, e_lt0, e_0le, e_0lt, e_le0, if_true, if_false, not_true_eq_false, not_false_eq_true, ite_true, ite_false, Nat.reduceAdd, Nat.reduceMul, Nat.reduceLeDiff, Nat.reduceLT, Nat.reduceEqDiff, Nat.reduceSub, ↓reduceIte, Nat.reduceDiv, Nat.reduceMod]
  refine h_takeLatest hC.2.2.2.2.1 hC.2.1 hm (by omega) (fun h2 hH2 hS2 hF2 => ?_)
  obtain ⟨a1, a2, ⟨bs, a3⟩, a4, a5, a6, a7⟩ := hC
  have hC2 : tb_CF h2 x (hs kn) hs kn g := ⟨(hF2 x (by omega) (by omega)).trans a1, hS2, ⟨bs, a3.fr (fun q q1 q2 => hF2 q (by omega) (by omega))⟩, a4.fr (fun q q1 q2 => hF2 q (by omega) (by omega)), hH2, a6.fr (fun q q1 q2 => hF2 q (by omega) (by omega)), a7.fr (fun q q1 q2 => hF2 q (by omega) (by omega))⟩
  have g2 := hC2.1.f
  have gh2 := hC2.2.2.2.2.1.gh.1
  simp (disch := first | assumption | omega | exact tb_sm0 | exact tb_sm1 _ | exact tb_sm2 _ _ | exact tb_sm3 _ _ _ | exact tb_sm4 _ _ _ _ | exact Or.inl rfl | exact Or.inr rfl | fail) only [r67_0, r67_1, r67_4, r67_7, r67_10, r67_12, r67_13, r67_14, r67_17, r67_18, r67_21, r67_24, r67_25, r67_28, r67_31, g2, gh2, tb_vl_some, tb_vl_none, tb_wF_some, nI_add, pk_mul, e_sub, e_div, tb_nmod, e_dec, e_le, e_lt, e_eq, e_eq0, e_lt0, e_0le, e_0lt, e_le0, if_true, if_false, not_true_eq_false, not_false_eq_true, ite_true, ite_false, Nat.reduceAdd, Nat.reduceMul, Nat.reduceLeDiff, Nat.reduceLT, Nat.reduceEqDiff, Nat.reduceSub, ↓reduceIte, Nat.reduceDiv, Nat.reduceMod]
  exact hQ h2 hC2 (fun q hq => hF2 q (by omega) (by omega))
theorem k_keep (hC : tb_CF h x s hs kn g) (hm : sp_mb s) (hd : 3 ≤ d) (hQ : ∀ h', tb_CF h' x s hs kn (s, 1, g.2.2) → tb_out h h' x (x + 198) → Q (some (.int (nI (s 0)))) h' nx) :
    tb_wp E d 68 0 [.ref x] [] h nx 0 0 Q := by
  have g0 := hC.1.f
  obtain ⟨a1, a2, ⟨bs, a3⟩, ⟨ss, a4, a4e⟩, a5, a6, a7⟩ := hC
  have oS := a4.1.O
  simp (disch := first | assumption | omega | exact tb_sm0 | exact tb_sm1 _ | exact tb_sm2 _ _ | exact tb_sm3 _ _ _ | exact tb_sm4 _ _ _ _ | exact Or.inl rfl | exact Or.inr rfl | fail) only [r68_0, r68_1, r68_4, r68_5, r68_8, r68_11, r68_12, r68_13, r68_16, r68_17, r68_20, r68_23, g0, tb_vl_some, tb_vl_none, tb_wF_some]
  refine s_copyFrom hm a2 a4 (by omega) (by omega) (fun h2 hS2 hF2 => ?_)
  have o2 := (hF2 x (by omega)).trans a1
  simp (disch := first | assumption | omega | exact tb_sm0 | exact tb_sm1 _ | exact tb_sm2 _ _ | exact tb_sm3 _ _ _ | exact tb_sm4 _ _ _ _ | exact Or.inl rfl | exact Or.inr rfl | fail) only [r68_0, r68_1, r68_4, r68_5, r68_8, r68_11, r68_12, r68_13, r68_16, r68_17, r68_20, r68_23, tb_vl_some, tb_vl_none, tb_wF_some]
  refine tb_pf_ok o2 (by simp) (fun h3 h31 h32 => ?_)
  have fr : ∀ q, ¬ (x + 55 ≤ q ∧ q < x + 82) → q ≠ x → h3 q = h q := fun q q1 q2 => by rw [h32 q q2, hF2 q (by omega)]
  have o3 : tb_Cx h3 x (nI 1) g.2.2.2.2.1 g.2.2.2.2.2 := h31
  have n3 := a2.fr (h' := h3) (fun q q1 q2 => fr q (by omega) (by omega))
  have g3 := o3.f
  have gn := n3.1.g
  simp (disch := first | assumption | omega | exact tb_sm0 | exact tb_sm1 _ | exact tb_sm2 _ _ | exact tb_sm3 _ _ _ | exact tb_sm4 _ _ _ _ | exact Or.inl rfl | exact Or.inr rfl | fail) only [r68_0, r68_1, r68_4, r68_5, r68_8, r68_11, r68_12, r68_13, r68_16, r68_17, r68_20, r68_23, g3, gn, tb_vl_some, tb_vl_none, tb_wF_some]
  exact hQ h3 ⟨o3, n3, ⟨bs, a3.fr (fun q q1 q2 => fr q (by omega) (by omega))⟩, ⟨s, hS2.fr (fun q q1 q2 => h32 q (by omega)), fun _ _ _ => rfl⟩, a5.fr (fun q q1 q2 => fr q (by omega) (by omega)), a6.fr (fun q q1 q2 => fr q (by omega) (by omega)), a7.fr (fun q q1 q2 => fr q (by omega) (by omega))⟩ (fun q hq => fr q (by omega) (by omega))
theorem k_restore_0 (hC : tb_CF h x s hs kn g) (h0 : g.2.1 = 0) : tb_wp E d 69 0 [.ref x] [] h nx 0 0 Q = Q (some (.int (-5))) h nx := by
  have g0 := hC.1.f
  simp (disch := first | assumption | omega | exact tb_sm0 | exact tb_sm1 _ | exact tb_sm2 _ _ | exact tb_sm3 _ _ _ | exact tb_sm4 _ _ _ _ | exact Or.inl rfl | exact Or.inr rfl | fail) only [r69_0, r69_1, r69_4, r69_7, r69_9, r69_10, r69_11, r69_14, r69_15, r69_18, r69_21, r69_22, r69_25, r69_26, r69_29, r69_32, r69_33, r69_34, r69_37, r69_40, r69_43, g0, h0, tb_vl_some, tb_vl_none, tb_wF_some, nI_add, pk_mul, e_sub, e_div, tb_nmod, e_dec, e_le, e_lt, e_eq, e_eq0, e_lt0, e_0le, e_0lt, e_le0, if_true, if_false, not_true_eq_false, not_false_eq_true, ite_true, ite_false, Nat.reduceAdd, Nat.reduceMul, Nat.reduceLeDiff, Nat.reduceLT, Nat.reduceEqDiff, Nat.reduceSub, ↓reduceIte, Nat.reduceDiv, Nat.reduceMod]
theorem k_restore (hC : tb_CF h x s hs kn g) (hm : sp_mb s) (hmg : sp_mb g.1) (h1 : g.2.1 = 1) (hs0 : g.1 0 < 2 ^ 31) (hd : 5 ≤ d) (hQ : ∀ h', tb_CF h' x g.1 (sp_rec hs kn s).1 (sp_rec hs kn s).2 g → tb_out h h' x (x + 198) → Q (some (.int (nI (g.1 0)))) h' nx) :
    tb_wp E d 69 0 [.ref x] [] h nx 0 0 Q := by
  have g0 := hC.1.f
  obtain ⟨bs, hb⟩ := hC.2.2.1
  have oB := hb.1.O
  simp (disch := first | assumption | omega | exact tb_sm0 | exact tb_sm1 _ | exact tb_sm2 _ _ | exact tb_sm3 _ _ _ | exact tb_sm4 _ _ _ _ | exact Or.inl rfl | exact Or.inr rfl | fail) only [r69_0, r69_1, r69_4, r69_7, r69_9, r69_10, r69_11, r69_14, r69_15, r69_18, r69_22, r69_25, r69_26, r69_29, r69_32, r69_33, r69_34, r69_37, r69_40, r69_43, g0, h1, tb_vl_some, tb_vl_none, tb_wF_some, nI_add, pk_mul, e_sub, e_div, tb_nmod, e_dec, e_le, e_lt, e_eq, e_eq0, e_lt0, e_0le, e_0lt, e_le0, if_true, if_false, not_true_eq_false, not_false_eq_true, ite_true, ite_false, Nat.reduceAdd, Nat.reduceMul, Nat.reduceLeDiff, Nat.reduceLT, Nat.reduceEqDiff, Nat.reduceSub, ↓reduceIte, Nat.reduceDiv, Nat.reduceMod]
  refine s_copyFrom hm hC.2.1 hb (by omega) (by omega) (fun h2 hS2 hF2 => ?_)
  have hC2 := hC.upB hS2 hF2
  have g2 := hC2.1.f
  have oN := hC2.2.1.1.O
  obtain ⟨ss, hss, hse⟩ := hC2.2.2.2.1
  simp (disch := first | assumption | omega | exact tb_sm0 | exact tb_sm1 _ | exact tb_sm2 _ _ | exact tb_sm3 _ _ _ | exact tb_sm4 _ _ _ _ | exact Or.inl rfl | exact Or.inr rfl | fail) only [r69_0, r69_1, r69_4, r69_7, r69_9, r69_10, r69_11, r69_14, r69_15, r69_18, r69_21, r69_22, r69_25, r69_26, r69_29, r69_32, r69_33, r69_34, r69_37, r69_40, r69_43, g2, tb_vl_some, tb_vl_none, tb_wF_some]
  refine s_copyFrom (fun j hj => by rw [← hse h1 (208 + j) (by omega)]; exact hmg j hj) hss hC2.2.1 (by omega) (by omega) (fun h3 hS3 hF3 => ?_)
  have hS3' : tb_St h3 (x + 1) g.1 := hS3.of (hse h1)
  have hC3 := hC2.upS hS3' (fun q hq => hF3 q (by omega))
  have hB3 := hS2.fr (h' := h3) (fun q q1 q2 => hF3 q (by omega))
  have g3 := hC3.1.f
  have oX := hC3.1.O
  have gn := hC3.2.1.1.g
  simp (disch := first | assumption | omega | exact tb_sm0 | exact tb_sm1 _ | exact tb_sm2 _ _ | exact tb_sm3 _ _ _ | exact tb_sm4 _ _ _ _ | exact Or.inl rfl | exact Or.inr rfl | fail) only [r69_0, r69_1, r69_4, r69_7, r69_9, r69_10, r69_11, r69_14, r69_15, r69_18, r69_21, r69_22, r69_25, r69_26, r69_29, r69_32, r69_33, r69_34, r69_37, r69_40, r69_43, g3, gn, tb_vl_some, tb_vl_none, tb_wF_some]
  refine k_recorded hC3 hB3 hm (by omega) (fun h4 hC4 hF4 => ?_)
  try simp (disch := first | assumption | omega | exact tb_sm0 | exact tb_sm1 _ | exact tb_sm2 _ _ | exact tb_sm3 _ _ _ | exact tb_sm4 _ _ _ _ | exact Or.inl rfl | exact Or.inr rfl | fail) only [r69_0, r69_1, r69_4, r69_7, r69_9, r69_10, r69_11, r69_14, r69_15, r69_18, r69_21, r69_22, r69_25, r69_26, r69_29, r69_32, r69_33, r69_34, r69_37, r69_40, r69_43, tb_vl_some, tb_vl_none, tb_wF_some]
  have e : sp_rc (nI (g.1 0)) hs kn s = sp_rec hs kn s := by unfold sp_rc; rw [if_neg (by rw [e_lt0 hs0]; exact id)]
  rw [e] at hC4
  exact hQ h4 hC4 (fun q hq => by rw [hF4 q hq, hF3 q (by omega), hF2 q (by omega)])
theorem k_try_l {b : Nat} {y : Value} (hb : b < 5) (hd : 4 ≤ d) (n : Nat) : ∀ (c : Nat) (h : tb_heap) (T : Nat → Nat), c + n = 300 → tb_CF h x s hs kn g → tb_B h (x + 192) T b → (∀ j, 1 ≤ j → j < 9 → s j = T j) → sp_I T → (∀ h' F, tb_CF h' x s hs kn g → tb_B h' (x + 192) F b → (F = (sp_settle b n T).1 ∨ (sp_rest (sp_settle b n T).1 b ∧ F = sp_wipe (sp_settle b n T).1 b)) → (∀ j, 1 ≤ j → j < 9 → s j = F j) → tb_out h h' x (x + 198) → Q (some (.int (nI (c + (sp_settle b n T).2)))) h' nx) →
    tb_wp E d 84 26 [.ref x, .int (nI b), y, .int (nI c)] [] h nx 0 0 Q := by
  induction n with
  | zero =>
    intro c h T hc hC hB hR hI hQ
    simp (disch := first | assumption | omega | exact tb_sm0 | exact tb_sm1 _ | exact tb_sm2 _ _ | exact tb_sm3 _ _ _ | exact tb_sm4 _ _ _ _ | exact Or.inl rfl | exact Or.inr rfl | fail) only [r84_26, r84_27, r84_30, nI_add, pk_mul, e_sub, e_div, tb_nmod, e_dec, e_le, e_lt, e_eq, e_eq0, e_lt0, e_0le, e_0lt, e_le0, if_true, if_false, not_true_eq_false, not_false_eq_true, ite_true, ite_false, Nat.reduceAdd, Nat.reduceMul, Nat.reduceLeDiff, Nat.reduceLT, Nat.reduceEqDiff, Nat.reduceSub, ↓reduceIte, Nat.reduceDiv, Nat.reduceMod]
    rw [if_pos (by omega)]
    simp (disch := first | assumption | omega | exact tb_sm0 | exact tb_sm1 _ | exact tb_sm2 _ _ | exact tb_sm3 _ _ _ | exact tb_sm4 _ _ _ _ | exact Or.inl rfl | exact Or.inr rfl | fail) only [r84_0, r84_1, r84_4, r84_5, r84_8, r84_11, r84_12, r84_13, r84_16, r84_17, r84_20, r84_21, r84_24, r84_25, r84_27, r84_30, r84_33, r84_34, r84_37, r84_38, r84_41, r84_44, r84_47, r84_50, r84_53, r84_56, r84_57]
    exact hQ h T hC hB (Or.inl rfl) hR tb_out.rf
  | succ n ih =>
    intro c h T hc hC hB hR hI hQ
    have g0 := hC.1.f
    have gn := hC.2.1.1.g
    have oB := hB.1.O
    have hc3 : ¬ 300 ≤ c := by omega
    simp (disch := first | assumption | omega | exact tb_sm0 | exact tb_sm1 _ | exact tb_sm2 _ _ | exact tb_sm3 _ _ _ | exact tb_sm4 _ _ _ _ | exact Or.inl rfl | exact Or.inr rfl | fail) only [r84_26, r84_27, r84_30, hc3, nI_add, pk_mul, e_sub, e_div, tb_nmod, e_dec, e_le, e_lt, e_eq, e_eq0, e_lt0, e_0le, e_0lt, e_le0, if_true, if_false, not_true_eq_false, not_false_eq_true, ite_true, ite_false, Nat.reduceAdd, Nat.reduceMul, Nat.reduceLeDiff, Nat.reduceLT, Nat.reduceEqDiff, Nat.reduceSub, ↓reduceIte, Nat.reduceDiv, Nat.reduceMod]
    simp (disch := first | assumption | omega | exact tb_sm0 | exact tb_sm1 _ | exact tb_sm2 _ _ | exact tb_sm3 _ _ _ | exact tb_sm4 _ _ _ _ | exact Or.inl rfl | exact Or.inr rfl | fail) only [r84_0, r84_1, r84_4, r84_5, r84_8, r84_11, r84_12, r84_13, r84_16, r84_17, r84_20, r84_21, r84_24, r84_25, r84_27, r84_30, r84_33, r84_34, r84_37, r84_38, r84_41, r84_44, r84_47, r84_50, r84_53, r84_56, r84_57, g0, gn, tb_vl_some, tb_vl_none, tb_wF_some]
    refine c_slideOnce hB (hC.2.1.2.1.to hR) hI hb (by omega) (by omega) (fun h2 hB2 hF2 => ?_)
    have hC2 := hC.upT (h' := h2) ⟨_, _, _, hB2⟩ (fun q hq => hF2 q (by omega))
    have hR2 : ∀ j, 1 ≤ j → j < 9 → s j = sp_tick T b j := fun j j1 j2 => by rw [sep_tick (by unfold sp_loc; omega)]; exact hR j j1 j2
    have out2 : tb_out h h2 x (x + 198) := fun q hq => hF2 q (by omega)
    unfold sp_r1
    rw [sp_settle] at hQ
    cases hr : sp_rb T b with
    | true =>
      rw [hr, if_pos rfl] at hQ
      have rest := sp_rb_t.mp hr
      simp (disch := first | assumption | omega | exact tb_sm0 | exact tb_sm1 _ | exact tb_sm2 _ _ | exact tb_sm3 _ _ _ | exact tb_sm4 _ _ _ _ | exact Or.inl rfl | exact Or.inr rfl | fail) only [r84_0, r84_1, r84_4, r84_5, r84_8, r84_11, r84_12, r84_13, r84_16, r84_17, r84_20, r84_21, r84_24, r84_25, r84_27, r84_30, r84_33, r84_34, r84_37, r84_38, r84_41, r84_44, r84_47, r84_50, r84_53, r84_56, r84_57, tb_vl_some, tb_vl_none, tb_wF_some, nI_add, pk_mul, e_sub, e_div, tb_nmod, e_dec, e_le, e_lt, e_eq, e_eq0, e_lt0, e_0le, e_0lt, e_le0, if_true, if_false, not_true_eq_false, not_false_eq_true, ite_true, ite_false, Nat.reduceAdd, Nat.reduceMul, Nat.reduceLeDiff, Nat.reduceLT, Nat.reduceEqDiff, Nat.reduceSub, ↓reduceIte, Nat.reduceDiv, Nat.reduceMod, cond_true]
      exact hQ h2 _ hC2 hB2 (Or.inr ⟨rest, rest_tick rest⟩) hR2 out2
    | false =>
      rw [hr, if_neg Bool.false_ne_true] at hQ
      simp (disch := first | assumption | omega | exact tb_sm0 | exact tb_sm1 _ | exact tb_sm2 _ _ | exact tb_sm3 _ _ _ | exact tb_sm4 _ _ _ _ | exact Or.inl rfl | exact Or.inr rfl | fail) only [r84_0, r84_1, r84_4, r84_5, r84_8, r84_11, r84_12, r84_13, r84_16, r84_17, r84_20, r84_21, r84_24, r84_25, r84_27, r84_30, r84_33, r84_34, r84_37, r84_38, r84_41, r84_44, r84_47, r84_50, r84_53, r84_56, r84_57, tb_vl_some, tb_vl_none, tb_wF_some, nI_add, pk_mul, e_sub, e_div, tb_nmod, e_dec, e_le, e_lt, e_eq, e_eq0, e_lt0, e_0le, e_0lt, e_le0, if_true, if_false, not_true_eq_false, not_false_eq_true, ite_true, ite_false, Nat.reduceAdd, Nat.reduceMul, Nat.reduceLeDiff, Nat.reduceLT, Nat.reduceEqDiff, Nat.reduceSub, ↓reduceIte, Nat.reduceDiv, Nat.reduceMod, cond_false]
      refine ih (c + 1) h2 _ (by omega) hC2 hB2 hR2 (sp_I_tick hI hb) (fun h3 F k1 k2 k3 k4 k5 => ?_)
      have q := hQ h3 F k1 k2 k3 k4 (out2.tr k5)
      dsimp only at q
      rw [show c + 1 + (sp_settle b n (sp_tick T b)).2 = c + ((sp_settle b n (sp_tick T b)).2 + 1) by omega]
      exact q
theorem k_try {b a : Nat} (hC : tb_CF h x s hs kn g) (hI : sp_I s) (hb : b < 5) (ha : a ≤ 90) (hd : 4 ≤ d) (hQ : ∀ h' F, tb_CF h' x s hs kn g → tb_B h' (x + 192) F b → (F = (sp_settle b 300 (va_up s (13 + b) a)).1 ∨ (sp_rest (sp_settle b 300 (va_up s (13 + b) a)).1 b ∧ F = sp_wipe (sp_settle b 300 (va_up s (13 + b) a)).1 b)) → (∀ j, 1 ≤ j → j < 9 → s j = F j) → tb_out h h' x (x + 198) → Q (some (.int (nI (sp_settle b 300 (va_up s (13 + b) a)).2))) h' nx) :
    tb_wp E d 84 0 [.ref x, .int (nI b), .int (nI a), .long 0] [] h nx 0 0 Q := by
  have g0 := hC.1.f
  have gn := hC.2.1.1.g
  obtain ⟨ts, mv, i, hT⟩ := hC.2.2.2.2.2.1
  have oT := hT.1.O
  simp (disch := first | assumption | omega | exact tb_sm0 | exact tb_sm1 _ | exact tb_sm2 _ _ | exact tb_sm3 _ _ _ | exact tb_sm4 _ _ _ _ | exact Or.inl rfl | exact Or.inr rfl | fail) only [r84_0, r84_1, r84_4, r84_5, r84_8, r84_11, r84_12, r84_13, r84_16, r84_17, r84_20, r84_21, r84_24, r84_25, r84_27, r84_30, r84_33, r84_34, r84_37, r84_38, r84_41, r84_44, r84_47, r84_50, r84_53, r84_56, r84_57, g0, gn, hC.2.1.A, tb_vl_some, tb_vl_none, tb_wF_some]
  refine c_copyBoard (sp_mb.B hI.2.2.2.2 hb) (hC.2.1.B hb) hT (by unfold tb_ba; omega) (by omega) (fun h2 hB2 hF2 => ?_)
  have hC2 := hC.upT (h' := h2) ⟨_, _, _, hB2⟩ (fun q hq => hF2 q (by omega))
  have g2 := hC2.1.f
  simp (disch := first | assumption | omega | exact tb_sm0 | exact tb_sm1 _ | exact tb_sm2 _ _ | exact tb_sm3 _ _ _ | exact tb_sm4 _ _ _ _ | exact Or.inl rfl | exact Or.inr rfl | fail) only [r84_0, r84_1, r84_4, r84_5, r84_8, r84_11, r84_12, r84_13, r84_16, r84_17, r84_20, r84_21, r84_24, r84_25, r84_27, r84_30, r84_33, r84_34, r84_37, r84_38, r84_41, r84_44, r84_47, r84_50, r84_53, r84_56, r84_57, g2, tb_vl_some, tb_vl_none, tb_wF_some]
  refine hB2.pf hb (Or.inl ⟨rfl, rfl⟩) (fun h3 hB3 hF3 => ?_)
  have hC3 := hC2.upT (h' := h3) ⟨_, _, _, hB3⟩ (fun q hq => hF3 q (by omega))
  try simp (disch := first | assumption | omega | exact tb_sm0 | exact tb_sm1 _ | exact tb_sm2 _ _ | exact tb_sm3 _ _ _ | exact tb_sm4 _ _ _ _ | exact Or.inl rfl | exact Or.inr rfl | fail) only [r84_0, r84_1, r84_4, r84_5, r84_8, r84_11, r84_12, r84_13, r84_16, r84_17, r84_20, r84_21, r84_24, r84_25, r84_27, r84_30, r84_33, r84_34, r84_37, r84_38, r84_41, r84_44, r84_47, r84_50, r84_53, r84_56, r84_57]
  have hB3' : tb_B h3 (x + 192) (va_up s (13 + b) a) b := hB3.to rfl rfl rfl (fun _ _ => rfl) (fun _ _ => rfl) (fun j hj => by unfold tb_mv; rw [va_up_n (by omega)])
  refine k_try_l hb hd 300 0 h3 _ rfl hC3 hB3' (fun j j1 j2 => (va_up_n (by omega)).symm) (sp_I_angle hI hb ha) (fun h4 F k1 k2 k3 k4 k5 => ?_)
  rw [Nat.zero_add]
  exact hQ h4 F k1 k2 k3 k4 (fun q hq => by rw [k5 q hq, hF3 q (by omega), hF2 q (by omega)])
theorem try_lo {b j : Nat} {F R : Nat → Nat} (h : F = R ∨ (sp_rest R b ∧ F = sp_wipe R b)) (hj : j < 208) : F j = R j := by
  rcases h with h | ⟨_, h⟩
  · rw [h]
  · rw [h]; unfold sp_wipe sp_mv; rw [if_neg (by omega)]
theorem try_all {b : Nat} {F R : Nat → Nat} (h : F = R ∨ (sp_rest R b ∧ F = sp_wipe R b)) (hb : b < 5) : sp_all F b = sp_all R b := by
  have e : ∀ c, c < 8 → sp_on F b c = sp_on R b c := fun c hc => sp_on_c (fun k hk => try_lo h (by omega))
  unfold sp_all
  rw [e 0 (by decide), e 1 (by decide), e 2 (by decide), e 3 (by decide), e 4 (by decide), e 5 (by decide), e 6 (by decide), e 7 (by decide)]
theorem try_rb {b : Nat} {F R : Nat → Nat} (h : F = R ∨ (sp_rest R b ∧ F = sp_wipe R b)) (hb : b < 5) : sp_rb F b = sp_rb R b := by
  rcases h with h | ⟨h1, h2⟩
  · rw [h]
  · rw [h2, sp_rb_t.mpr h1, sp_rb_t.mpr (rest_wipe h1 hb)]
theorem try_I {b : Nat} {F R : Nat → Nat} (h : F = R ∨ (sp_rest R b ∧ F = sp_wipe R b)) (hI : sp_I R) (hb : b < 5) : sp_I F := by
  rcases h with h | ⟨h1, h2⟩
  · rw [h]; exact hI
  · rw [h2]; exact sp_I_mv hI hb (fun _ => Nat.zero_le _)
theorem k_restsIn {y : Int32} (hC : tb_CF h x s hs kn g) (hI : sp_I s) (hd : 5 ≤ d) (hQ : ∀ h', tb_CF h' x s hs kn g → tb_out h h' x (x + 198) → Q (some (.int (an_rests s y))) h' nx) :
    tb_wp E d 77 0 [.ref x, .int y, .long 0] [] h nx 0 0 Q := by
  have g0 := hC.1.f
  have oX := hC.1.O
  have gn := hC.2.1.1.g
  rcases tb_gd y (show 4 < 2 ^ 31 by decide) with hb | ⟨b, hb, rfl⟩
  · have e : an_rests s y = -1 := by unfold an_rests; rw [if_pos hb]
    rw [e] at hQ
    simp (disch := first | assumption | omega | exact tb_sm0 | exact tb_sm1 _ | exact tb_sm2 _ _ | exact tb_sm3 _ _ _ | exact tb_sm4 _ _ _ _ | exact Or.inl rfl | exact Or.inr rfl | fail) only [r77_0, r77_1, r77_4, r77_7, r77_8, r77_9, r77_10, r77_11, r77_12, r77_15, r77_18, r77_19, r77_20, r77_23, r77_26, r77_27, r77_28, r77_31, r77_32, r77_35, r77_38, r77_41, r77_44, r77_45, r77_48, r77_50, s_isBoard_no hb, tb_vl_some, tb_vl_none, tb_wF_some, nI_add, pk_mul, e_sub, e_div, tb_nmod, e_dec, e_le, e_lt, e_eq, e_eq0, e_lt0, e_0le, e_0lt, e_le0, if_true, if_false, not_true_eq_false, not_false_eq_true, ite_true, ite_false, Nat.reduceAdd, Nat.reduceMul, Nat.reduceLeDiff, Nat.reduceLT, Nat.reduceEqDiff, Nat.reduceSub, ↓reduceIte, Nat.reduceDiv, Nat.reduceMod]
    exact hQ h hC tb_out.rf
  · have e : an_rests s (nI b) = bif sp_rb (sp_settle b 300 s).1 b then nI (sp_settle b 300 s).2 else -5 := by unfold an_rests; rw [if_neg (e_ok hb (by decide)), sp_n_nI (by omega)]
    rw [e] at hQ
    have hb5 : b < 5 := by omega
    have gb := hC.2.1.gb b hb5
    simp (disch := first | assumption | omega | exact tb_sm0 | exact tb_sm1 _ | exact tb_sm2 _ _ | exact tb_sm3 _ _ _ | exact tb_sm4 _ _ _ _ | exact Or.inl rfl | exact Or.inr rfl | fail) only [r77_0, r77_1, r77_4, r77_7, r77_8, r77_9, r77_10, r77_11, r77_12, r77_15, r77_18, r77_19, r77_20, r77_23, r77_26, r77_27, r77_28, r77_31, r77_32, r77_35, r77_38, r77_41, r77_44, r77_45, r77_48, r77_50, s_isBoard, g0, gn, gb, hC.2.1.A, tb_vl_some, tb_vl_none, tb_wF_some, nI_add, pk_mul, e_sub, e_div, tb_nmod, e_dec, e_le, e_lt, e_eq, e_eq0, e_lt0, e_0le, e_0lt, e_le0, if_true, if_false, not_true_eq_false, not_false_eq_true, ite_true, ite_false, Nat.reduceAdd, Nat.reduceMul, Nat.reduceLeDiff, Nat.reduceLT, Nat.reduceEqDiff, Nat.reduceSub, ↓reduceIte, Nat.reduceDiv, Nat.reduceMod]
    refine k_try hC hI hb5 (hI.2.2.2.1 b hb5) (by omega) (fun h2 F k1 k2 k3 k4 k5 => ?_)
    rw [va_up_id] at k3 ⊢
    have g2 := k1.1.f
    have gn2 := k1.2.1.1.g
    have oT := k2.1.O
    have IR := sp_I_settle hb5 300 s hI
    have rs := fun {Q'} => c_isAtRest (E := E) (d := d - 1) (nx := nx) (Q := Q') k2 (k1.2.1.2.1.to k4) (try_I k3 IR hb5) hb5 (fun _ _ => rfl) (show 3 ≤ d - 1 by omega)
    have q := hQ h2 k1 k5
    unfold sp_r1 at rs
    rw [try_rb k3 hb5] at rs
    cases hr : sp_rb (sp_settle b 300 s).1 b with
    | true =>
      rw [hr] at rs q
      simp (disch := first | assumption | omega | exact tb_sm0 | exact tb_sm1 _ | exact tb_sm2 _ _ | exact tb_sm3 _ _ _ | exact tb_sm4 _ _ _ _ | exact Or.inl rfl | exact Or.inr rfl | fail) only [r77_0, r77_1, r77_4, r77_7, r77_8, r77_9, r77_10, r77_11, r77_12, r77_15, r77_18, r77_19, r77_20, r77_23, r77_26, r77_27, r77_28, r77_31, r77_32, r77_35, r77_38, r77_41, r77_44, r77_45, r77_48, r77_50, g2, gn2, rs, tb_vl_some, tb_vl_none, tb_wF_some, nI_add, pk_mul, e_sub, e_div, tb_nmod, e_dec, e_le, e_lt, e_eq, e_eq0, e_lt0, e_0le, e_0lt, e_le0, if_true, if_false, not_true_eq_false, not_false_eq_true, ite_true, ite_false, Nat.reduceAdd, Nat.reduceMul, Nat.reduceLeDiff, Nat.reduceLT, Nat.reduceEqDiff, Nat.reduceSub, ↓reduceIte, Nat.reduceDiv, Nat.reduceMod, cond_true]
      exact q
    | false =>
      rw [hr] at rs q
      simp (disch := first | assumption | omega | exact tb_sm0 | exact tb_sm1 _ | exact tb_sm2 _ _ | exact tb_sm3 _ _ _ | exact tb_sm4 _ _ _ _ | exact Or.inl rfl | exact Or.inr rfl | fail) only [r77_0, r77_1, r77_4, r77_7, r77_8, r77_9, r77_10, r77_11, r77_12, r77_15, r77_18, r77_19, r77_20, r77_23, r77_26, r77_27, r77_28, r77_31, r77_32, r77_35, r77_38, r77_41, r77_44, r77_45, r77_48, r77_50, g2, gn2, rs, tb_vl_some, tb_vl_none, tb_wF_some, nI_add, pk_mul, e_sub, e_div, tb_nmod, e_dec, e_le, e_lt, e_eq, e_eq0, e_lt0, e_0le, e_0lt, e_le0, if_true, if_false, not_true_eq_false, not_false_eq_true, ite_true, ite_false, Nat.reduceAdd, Nat.reduceMul, Nat.reduceLeDiff, Nat.reduceLT, Nat.reduceEqDiff, Nat.reduceSub, ↓reduceIte, Nat.reduceDiv, Nat.reduceMod, cond_false]
      exact q
theorem k_ifTilted {y z w : Int32} (hC : tb_CF h x s hs kn g) (hI : sp_I s) (hd : 5 ≤ d) (hQ : ∀ h', tb_CF h' x s hs kn g → tb_out h h' x (x + 198) → Q (some (.int (an_til s y z w))) h' nx) :
    tb_wp E d 78 0 [.ref x, .int y, .int z, .int w, .long 0] [] h nx 0 0 Q := by
  have g0 := hC.1.f
  have oX := hC.1.O
  rcases tb_gd y (show 4 < 2 ^ 31 by decide) with hb | ⟨b, hb, rfl⟩
  · have e : an_til s y z w = -1 := by unfold an_til; rw [if_pos hb]
    rw [e] at hQ
    simp (disch := first | assumption | omega | exact tb_sm0 | exact tb_sm1 _ | exact tb_sm2 _ _ | exact tb_sm3 _ _ _ | exact tb_sm4 _ _ _ _ | exact Or.inl rfl | exact Or.inr rfl | fail) only [r78_0, r78_1, r78_4, r78_7, r78_8, r78_9, r78_10, r78_11, r78_13, r78_16, r78_19, r78_20, r78_21, r78_22, r78_25, r78_28, r78_30, r78_31, r78_32, r78_33, r78_34, r78_37, r78_39, r78_40_0, r78_40_1, r78_40_2, r78_40_d, r78_68, r78_70, r78_71, r78_72, r78_75, r78_78, r78_79, r78_82, r78_85, r78_86, r78_87, r78_90, r78_91, r78_92, r78_93, r78_96, r78_99, r78_100, r78_103, r78_106, r78_107, r78_108, r78_111, r78_112, r78_113, r78_114, r78_117, r78_120, s_isBoard_no hb, tb_vl_some, tb_vl_none, tb_wF_some, nI_add, pk_mul, e_sub, e_div, tb_nmod, e_dec, e_le, e_lt, e_eq, e_eq0, e_lt0, e_0le, e_0lt, e_le0, if_true, if_false, not_true_eq_false, not_false_eq_true, ite_true, ite_false, Nat.reduceAdd, Nat.reduceMul, Nat.reduceLeDiff, Nat.reduceLT, Nat.reduceEqDiff, Nat.reduceSub, ↓reduceIte, Nat.reduceDiv, Nat.reduceMod]
    exact hQ h hC tb_out.rf
  · rcases tb_gd z (show 90 < 2 ^ 31 by decide) with ha | ⟨a, ha, rfl⟩
    · have e : an_til s (nI b) z w = -2 := by unfold an_til; rw [if_neg (e_ok hb (by decide)), if_pos (Or.inl ha)]
      rw [e] at hQ
      simp (disch := first | assumption | omega | exact tb_sm0 | exact tb_sm1 _ | exact tb_sm2 _ _ | exact tb_sm3 _ _ _ | exact tb_sm4 _ _ _ _ | exact Or.inl rfl | exact Or.inr rfl | fail) only [r78_0, r78_1, r78_4, r78_7, r78_8, r78_9, r78_10, r78_11, r78_13, r78_16, r78_19, r78_20, r78_21, r78_22, r78_25, r78_28, r78_30, r78_31, r78_32, r78_33, r78_34, r78_37, r78_39, r78_40_0, r78_40_1, r78_40_2, r78_40_d, r78_68, r78_70, r78_71, r78_72, r78_75, r78_78, r78_79, r78_82, r78_85, r78_86, r78_87, r78_90, r78_91, r78_92, r78_93, r78_96, r78_99, r78_100, r78_103, r78_106, r78_107, r78_108, r78_111, r78_112, r78_113, r78_114, r78_117, r78_120, s_isBoard, s_isWithin_no ha, tb_vl_some, tb_vl_none, tb_wF_some, nI_add, pk_mul, e_sub, e_div, tb_nmod, e_dec, e_le, e_lt, e_eq, e_eq0, e_lt0, e_0le, e_0lt, e_le0, if_true, if_false, not_true_eq_false, not_false_eq_true, ite_true, ite_false, Nat.reduceAdd, Nat.reduceMul, Nat.reduceLeDiff, Nat.reduceLT, Nat.reduceEqDiff, Nat.reduceSub, ↓reduceIte, Nat.reduceDiv, Nat.reduceMod]
      exact hQ h hC tb_out.rf
    · rcases tb_gd w (show 3 < 2 ^ 31 by decide) with hw | ⟨w, hw, rfl⟩
      · have e : an_til s (nI b) (nI a) w = -2 := by unfold an_til; rw [if_neg (e_ok hb (by decide)), if_pos (Or.inr hw)]
        rw [e] at hQ
        simp (disch := first | assumption | omega | exact tb_sm0 | exact tb_sm1 _ | exact tb_sm2 _ _ | exact tb_sm3 _ _ _ | exact tb_sm4 _ _ _ _ | exact Or.inl rfl | exact Or.inr rfl | fail) only [r78_0, r78_1, r78_4, r78_7, r78_8, r78_9, r78_10, r78_11, r78_13, r78_16, r78_19, r78_20, r78_21, r78_22, r78_25, r78_28, r78_30, r78_31, r78_32, r78_33, r78_34, r78_37, r78_39, r78_40_0, r78_40_1, r78_40_2, r78_40_d, r78_68, r78_70, r78_71, r78_72, r78_75, r78_78, r78_79, r78_82, r78_85, r78_86, r78_87, r78_90, r78_91, r78_92, r78_93, r78_96, r78_99, r78_100, r78_103, r78_106, r78_107, r78_108, r78_111, r78_112, r78_113, r78_114, r78_117, r78_120, s_isBoard, s_isWithin (Nat.zero_le a) ha (by decide), s_isWithin_no hw, tb_vl_some, tb_vl_none, tb_wF_some, nI_add, pk_mul, e_sub, e_div, tb_nmod, e_dec, e_le, e_lt, e_eq, e_eq0, e_lt0, e_0le, e_0lt, e_le0, if_true, if_false, not_true_eq_false, not_false_eq_true, ite_true, ite_false, Nat.reduceAdd, Nat.reduceMul, Nat.reduceLeDiff, Nat.reduceLT, Nat.reduceEqDiff, Nat.reduceSub, ↓reduceIte, Nat.reduceDiv, Nat.reduceMod]
        exact hQ h hC tb_out.rf
      · have e : an_til s (nI b) (nI a) (nI w) = sp_til s b a w := by
          unfold an_til
          rw [if_neg (e_ok hb (by decide)), if_neg (fun q => q.elim (e_ok ha (by decide)) (e_ok hw (by decide))), sp_n_nI (by omega), sp_n_nI (by omega), sp_n_nI (by omega)]
        rw [e] at hQ
        have hb5 : b < 5 := by omega
        simp (disch := first | assumption | omega | exact tb_sm0 | exact tb_sm1 _ | exact tb_sm2 _ _ | exact tb_sm3 _ _ _ | exact tb_sm4 _ _ _ _ | exact Or.inl rfl | exact Or.inr rfl | fail) only [r78_0, r78_1, r78_4, r78_7, r78_8, r78_9, r78_10, r78_11, r78_13, r78_16, r78_19, r78_20, r78_21, r78_22, r78_25, r78_28, r78_30, r78_31, r78_32, r78_33, r78_34, r78_37, r78_39, r78_40_0, r78_40_1, r78_40_2, r78_40_d, r78_68, r78_70, r78_71, r78_72, r78_75, r78_78, r78_79, r78_82, r78_85, r78_86, r78_87, r78_90, r78_91, r78_92, r78_93, r78_96, r78_99, r78_100, r78_103, r78_106, r78_107, r78_108, r78_111, r78_112, r78_113, r78_114, r78_117, r78_120, s_isBoard, s_isWithin (Nat.zero_le a) ha (by decide), s_isWithin (Nat.zero_le w) hw (by decide), tb_vl_some, tb_vl_none, tb_wF_some, nI_add, pk_mul, e_sub, e_div, tb_nmod, e_dec, e_le, e_lt, e_eq, e_eq0, e_lt0, e_0le, e_0lt, e_le0, if_true, if_false, not_true_eq_false, not_false_eq_true, ite_true, ite_false, Nat.reduceAdd, Nat.reduceMul, Nat.reduceLeDiff, Nat.reduceLT, Nat.reduceEqDiff, Nat.reduceSub, ↓reduceIte, Nat.reduceDiv, Nat.reduceMod]
        refine k_try hC hI hb5 ha (by omega) (fun h2 F k1 k2 k3 k4 k5 => ?_)
        have g2 := k1.1.f
        have gn2 := k1.2.1.1.g
        have gb2 := k1.2.1.gb b hb5
        have gt := k2.1.g
        have oT := k2.1.O
        rw [try_lo k3 (show 18 + b < 208 by omega), try_lo k3 (show 23 + b < 208 by omega)] at gt
        have ta := try_all k3 hb5
        have q := hQ h2 k1 k5
        unfold sp_til at q
        dsimp only at q
        rcases (by omega : w = 0 ∨ w = 1 ∨ w = 2 ∨ w = 3) with rfl | rfl | rfl | rfl
        · rw [if_pos rfl] at q
          simp (disch := first | assumption | omega | exact tb_sm0 | exact tb_sm1 _ | exact tb_sm2 _ _ | exact tb_sm3 _ _ _ | exact tb_sm4 _ _ _ _ | exact Or.inl rfl | exact Or.inr rfl | fail) only [r78_0, r78_1, r78_4, r78_7, r78_8, r78_9, r78_10, r78_11, r78_13, r78_16, r78_19, r78_20, r78_21, r78_22, r78_25, r78_28, r78_30, r78_31, r78_32, r78_33, r78_34, r78_37, r78_39, r78_40_0, r78_40_1, r78_40_2, r78_40_d, r78_68, r78_70, r78_71, r78_72, r78_75, r78_78, r78_79, r78_82, r78_85, r78_86, r78_87, r78_90, r78_91, r78_92, r78_93, r78_96, r78_99, r78_100, r78_103, r78_106, r78_107, r78_108, r78_111, r78_112, r78_113, r78_114, r78_117, r78_120, tb_vl_some, tb_vl_none, tb_wF_some]
          exact q
        · rw [if_neg (by decide), if_pos rfl] at q
          simp (disch := first | assumption | omega | exact tb_sm0 | exact tb_sm1 _ | exact tb_sm2 _ _ | exact tb_sm3 _ _ _ | exact tb_sm4 _ _ _ _ | exact Or.inl rfl | exact Or.inr rfl | fail) only [r78_0, r78_1, r78_4, r78_7, r78_8, r78_9, r78_10, r78_11, r78_13, r78_16, r78_19, r78_20, r78_21, r78_22, r78_25, r78_28, r78_30, r78_31, r78_32, r78_33, r78_34, r78_37, r78_39, r78_40_0, r78_40_1, r78_40_2, r78_40_d, r78_68, r78_70, r78_71, r78_72, r78_75, r78_78, r78_79, r78_82, r78_85, r78_86, r78_87, r78_90, r78_91, r78_92, r78_93, r78_96, r78_99, r78_100, r78_103, r78_106, r78_107, r78_108, r78_111, r78_112, r78_113, r78_114, r78_117, r78_120, g2, gn2, gb2, gt, k1.2.1.A, tb_vl_some, tb_vl_none, tb_wF_some]
          exact q
        · rw [if_neg (by decide), if_neg (by decide), if_pos rfl] at q
          simp (disch := first | assumption | omega | exact tb_sm0 | exact tb_sm1 _ | exact tb_sm2 _ _ | exact tb_sm3 _ _ _ | exact tb_sm4 _ _ _ _ | exact Or.inl rfl | exact Or.inr rfl | fail) only [r78_0, r78_1, r78_4, r78_7, r78_8, r78_9, r78_10, r78_11, r78_13, r78_16, r78_19, r78_20, r78_21, r78_22, r78_25, r78_28, r78_30, r78_31, r78_32, r78_33, r78_34, r78_37, r78_39, r78_40_0, r78_40_1, r78_40_2, r78_40_d, r78_68, r78_70, r78_71, r78_72, r78_75, r78_78, r78_79, r78_82, r78_85, r78_86, r78_87, r78_90, r78_91, r78_92, r78_93, r78_96, r78_99, r78_100, r78_103, r78_106, r78_107, r78_108, r78_111, r78_112, r78_113, r78_114, r78_117, r78_120, g2, gn2, gb2, gt, k1.2.1.A, tb_vl_some, tb_vl_none, tb_wF_some]
          exact q
        · rw [if_neg (by decide), if_neg (by decide), if_neg (by decide)] at q
          have z1 : (nI 3).toInt < 0 ∨ 2 < (nI 3).toInt := by decide
          simp (disch := first | assumption | omega | exact tb_sm0 | exact tb_sm1 _ | exact tb_sm2 _ _ | exact tb_sm3 _ _ _ | exact tb_sm4 _ _ _ _ | exact Or.inl rfl | exact Or.inr rfl | fail) only [r78_0, r78_1, r78_4, r78_7, r78_8, r78_9, r78_10, r78_11, r78_13, r78_16, r78_19, r78_20, r78_21, r78_22, r78_25, r78_28, r78_30, r78_31, r78_32, r78_33, r78_34, r78_37, r78_39, r78_40_0, r78_40_1, r78_40_2, r78_40_d, r78_68, r78_70, r78_71, r78_72, r78_75, r78_78, r78_79, r78_82, r78_85, r78_86, r78_87, r78_90, r78_91, r78_92, r78_93, r78_96, r78_99, r78_100, r78_103, r78_106, r78_107, r78_108, r78_111, r78_112, r78_113, r78_114, r78_117, r78_120, g2, c_grainsOnCells k2, ta, tb_vl_some, tb_vl_none, tb_wF_some]
          exact q
theorem k_clr_l {b : Nat} (hI : sp_I s) (hb : b < 5) (hd : 5 ≤ d) (n : Nat) : ∀ (h : tb_heap) (i : Nat), i + n = 91 → tb_CF h x s hs kn g → (∀ h', tb_CF h' x s hs kn g → tb_out h h' x (x + 198) → Q (some (.int (sp_clr s b n))) h' nx) →
    tb_wp E d 79 11 [.ref x, .int (nI b), .int (nI i)] [] h nx 0 0 Q := by
  induction n with
  | zero =>
    intro h i hi hC hQ
    have e : i = 91 := by omega
    subst e
    simp (disch := first | assumption | omega | exact tb_sm0 | exact tb_sm1 _ | exact tb_sm2 _ _ | exact tb_sm3 _ _ _ | exact tb_sm4 _ _ _ _ | exact Or.inl rfl | exact Or.inr rfl | fail) only [r79_0, r79_1, r79_4, r79_7, r79_8, r79_9, r79_10, r79_11, r79_12, r79_14, r79_17, r79_18, r79_19, r79_20, r79_23, r79_24, r79_25, r79_28, r79_31, r79_34, r79_35, r79_36, r79_39, r79_42, r79_44, nI_add, pk_mul, e_sub, e_div, tb_nmod, e_dec, e_le, e_lt, e_eq, e_eq0, e_lt0, e_0le, e_0lt, e_le0, if_true, if_false, not_true_eq_false, not_false_eq_true, ite_true, ite_false, Nat.reduceAdd, Nat.reduceMul, Nat.reduceLeDiff, Nat.reduceLT, Nat.reduceEqDiff, Nat.reduceSub, ↓reduceIte, Nat.reduceDiv, Nat.reduceMod]
    exact hQ h hC tb_out.rf
  | succ n ih =>
    intro h i hi hC hQ
    have g0 := hC.1.f
    have oX := hC.1.O
    have hi90 : ¬ 90 < i := by omega
    simp (disch := first | assumption | omega | exact tb_sm0 | exact tb_sm1 _ | exact tb_sm2 _ _ | exact tb_sm3 _ _ _ | exact tb_sm4 _ _ _ _ | exact Or.inl rfl | exact Or.inr rfl | fail) only [r79_11, r79_12, r79_14, hi90, nI_add, pk_mul, e_sub, e_div, tb_nmod, e_dec, e_le, e_lt, e_eq, e_eq0, e_lt0, e_0le, e_0lt, e_le0, if_true, if_false, not_true_eq_false, not_false_eq_true, ite_true, ite_false, Nat.reduceAdd, Nat.reduceMul, Nat.reduceLeDiff, Nat.reduceLT, Nat.reduceEqDiff, Nat.reduceSub, ↓reduceIte, Nat.reduceDiv, Nat.reduceMod]
    simp (disch := first | assumption | omega | exact tb_sm0 | exact tb_sm1 _ | exact tb_sm2 _ _ | exact tb_sm3 _ _ _ | exact tb_sm4 _ _ _ _ | exact Or.inl rfl | exact Or.inr rfl | fail) only [r79_0, r79_1, r79_4, r79_7, r79_8, r79_9, r79_10, r79_12, r79_14, r79_17, r79_18, r79_19, r79_20, r79_23, r79_24, r79_25, r79_28, r79_31, r79_34, r79_35, r79_36, r79_39, r79_42, r79_44]
    refine k_try hC hI hb (by omega) (by omega) (fun h2 F k1 k2 k3 k4 k5 => ?_)
    have g2 := k1.1.f
    have oT := k2.1.O
    have ta := try_all k3 hb
    rw [sp_clr, show 90 - n = i by omega] at hQ
    have et : sp_til s b i 3 = nI (sp_all (sp_settle b 300 (va_up s (13 + b) i)).1 b) := by
      unfold sp_til
      dsimp only
      rw [if_neg (by decide), if_neg (by decide), if_neg (by decide)]
    rw [et] at hQ
    by_cases c : nI (sp_all (sp_settle b 300 (va_up s (13 + b) i)).1 b) = 0
    · rw [if_pos c] at hQ
      simp (disch := first | assumption | omega | exact tb_sm0 | exact tb_sm1 _ | exact tb_sm2 _ _ | exact tb_sm3 _ _ _ | exact tb_sm4 _ _ _ _ | exact Or.inl rfl | exact Or.inr rfl | fail) only [r79_0, r79_1, r79_4, r79_7, r79_8, r79_9, r79_10, r79_12, r79_14, r79_17, r79_18, r79_19, r79_20, r79_23, r79_24, r79_25, r79_28, r79_31, r79_34, r79_35, r79_36, r79_39, r79_42, r79_44, g2, c_grainsOnCells k2, ta, c, tb_vl_some, tb_vl_none, tb_wF_some, not_true_eq_false, if_true, if_false, ↓reduceIte]
      exact hQ h2 k1 k5
    · rw [if_neg c] at hQ
      simp (disch := first | assumption | omega | exact tb_sm0 | exact tb_sm1 _ | exact tb_sm2 _ _ | exact tb_sm3 _ _ _ | exact tb_sm4 _ _ _ _ | exact Or.inl rfl | exact Or.inr rfl | fail) only [r79_0, r79_1, r79_4, r79_7, r79_8, r79_9, r79_10, r79_12, r79_14, r79_17, r79_18, r79_19, r79_20, r79_23, r79_24, r79_25, r79_28, r79_31, r79_34, r79_35, r79_36, r79_39, r79_42, r79_44, g2, c_grainsOnCells k2, ta, c, tb_vl_some, tb_vl_none, tb_wF_some, not_false_eq_true, if_true, if_false, ↓reduceIte, nI_add]
      exact ih h2 (i + 1) (by omega) k1 (fun h3 h31 h32 => hQ h3 h31 (k5.tr h32))
theorem k_clearingAngle {y : Int32} (hC : tb_CF h x s hs kn g) (hI : sp_I s) (hd : 5 ≤ d) (hQ : ∀ h', tb_CF h' x s hs kn g → tb_out h h' x (x + 198) → Q (some (.int (an_clr s y))) h' nx) :
    tb_wp E d 79 0 [.ref x, .int y, .long 0] [] h nx 0 0 Q := by
  rcases tb_gd y (show 4 < 2 ^ 31 by decide) with hb | ⟨b, hb, rfl⟩
  · have e : an_clr s y = -1 := by unfold an_clr; rw [if_pos hb]
    rw [e] at hQ
    simp (disch := first | assumption | omega | exact tb_sm0 | exact tb_sm1 _ | exact tb_sm2 _ _ | exact tb_sm3 _ _ _ | exact tb_sm4 _ _ _ _ | exact Or.inl rfl | exact Or.inr rfl | fail) only [r79_0, r79_1, r79_4, r79_7, r79_8, r79_9, r79_10, r79_12, r79_14, r79_17, r79_18, r79_19, r79_20, r79_23, r79_24, r79_25, r79_28, r79_31, r79_34, r79_35, r79_36, r79_39, r79_42, r79_44, s_isBoard_no hb, tb_vl_some, tb_vl_none, tb_wF_some, nI_add, pk_mul, e_sub, e_div, tb_nmod, e_dec, e_le, e_lt, e_eq, e_eq0, e_lt0, e_0le, e_0lt, e_le0, if_true, if_false, not_true_eq_false, not_false_eq_true, ite_true, ite_false, Nat.reduceAdd, Nat.reduceMul, Nat.reduceLeDiff, Nat.reduceLT, Nat.reduceEqDiff, Nat.reduceSub, ↓reduceIte, Nat.reduceDiv, Nat.reduceMod]
    exact hQ h hC tb_out.rf
  · have e : an_clr s (nI b) = sp_clr s b 91 := by unfold an_clr; rw [if_neg (e_ok hb (by decide)), sp_n_nI (by omega)]
    rw [e] at hQ
    simp (disch := first | assumption | omega | exact tb_sm0 | exact tb_sm1 _ | exact tb_sm2 _ _ | exact tb_sm3 _ _ _ | exact tb_sm4 _ _ _ _ | exact Or.inl rfl | exact Or.inr rfl | fail) only [r79_0, r79_1, r79_4, r79_7, r79_8, r79_9, r79_10, r79_12, r79_14, r79_17, r79_18, r79_19, r79_20, r79_23, r79_24, r79_25, r79_28, r79_31, r79_34, r79_35, r79_36, r79_39, r79_42, r79_44, s_isBoard, tb_vl_some, tb_vl_none, tb_wF_some, nI_add, pk_mul, e_sub, e_div, tb_nmod, e_dec, e_le, e_lt, e_eq, e_eq0, e_lt0, e_0le, e_0lt, e_le0, if_true, if_false, not_true_eq_false, not_false_eq_true, ite_true, ite_false, Nat.reduceAdd, Nat.reduceMul, Nat.reduceLeDiff, Nat.reduceLT, Nat.reduceEqDiff, Nat.reduceSub, ↓reduceIte, Nat.reduceDiv, Nat.reduceMod]
    exact k_clr_l hI (by omega) hd 91 h 0 rfl hC hQ
end C11
