/-! THE CLASS: orders read -/
def ps_cv (v w : ps_V) : Prop := v.1 = w.1 ∧ (w.1 ≠ 46 → v.2.1 = w.2.1) ∧ (w.1 = 112 → v.2.2.1 = w.2.2.1 ∧ v.2.2.2.1 = w.2.2.2.1) ∧ (w.1 = 46 ∨ w.1 = 116 ∨ w.1 = 112 → v.2.2.2.2 = w.2.2.2.2)
def ps_dv (tx : Nat → Nat) (le lo hi : Nat) (r : Bool × Nat) : Nat := if (ps_t tx le lo hi r).1 = true then tx r.2 - 48 else 0
def ps_nv (tx : Nat → Nat) (le lo hi : Nat) (r : Bool × Nat) : Nat := if (ps_num tx le lo hi r).1 = true then ps_val tx le hi r.2 else 0
theorem ps_t_ff {tx : Nat → Nat} {le lo hi p : Nat} : ps_t tx le lo hi (false, p) = (false, p) := by
  unfold ps_t
  rw [if_neg (fun q => by cases q.1)]
theorem ps_num_ff {tx : Nat → Nat} {le lo hi p : Nat} : ps_num tx le lo hi (false, p) = (false, p) := by
  unfold ps_num
  rw [ps_t_ff, if_neg (fun q => by cases q.1)]
theorem ps_ro_ff {tx : Nat → Nat} {le c p : Nat} : ps_ro tx le c (false, p) = (false, p) := by
  unfold ps_ro
  simp only [ps_t_ff, ps_num_ff, ite_self]
theorem ps_ord_ro {tx : Nat → Nat} {le p : Nat} (h : p < le ∧ ps_isv (tx p)) : ps_ord tx le p = (ps_ro tx le (tx p) (true, p + 1), ps_rv tx le (tx p) (p + 1)) := by
  unfold ps_ord ps_ro ps_rv
  rw [if_neg (fun q => q h)]
  by_cases d1 : tx p = 46
  · rw [if_pos d1, if_pos d1, if_pos d1]
  · rw [if_neg d1, if_neg d1, if_neg d1]
    by_cases d2 : tx p = 116
    · rw [if_pos d2, if_pos d2, if_pos d2]
    · rw [if_neg d2, if_neg d2, if_neg d2]
      by_cases d3 : tx p = 112
      · rw [if_pos d3, if_pos d3, if_pos d3]
      · rw [if_neg d3, if_neg d3, if_neg d3]
section O2
variable {E : tb_env} {d : Nat} {h : tb_heap} {nx : Nat} {Q : Option Value → tb_heap → Nat → Prop} {t : Nat} {tx : Nat → Nat} {le : Nat} {v : ps_V}
theorem o_isVerb {c : Nat} (hc : c < 65536) : tb_wp E d 27 0 [.int (nI c)] [] h nx 0 0 Q = Q (some (.int (nI (if ps_isv c then 1 else 0)))) h nx := by
  by_cases q : ps_isv c
  · rw [if_pos q]
    rcases q with q | q | q | q | q <;> subst q <;> simp (disch := first | assumption | omega | exact tb_sm0 | exact tb_sm1 _ | exact tb_sm2 _ _ | exact tb_sm3 _ _ _ | exact tb_sm4 _ _ _ _ | exact Or.inl rfl | exact Or.inr rfl | fail) only [r27_0, r27_1, r27_3, r27_6, r27_7, r27_9, r27_12, r27_13, r27_15, r27_18, r27_19, r27_21, r27_24, r27_25, r27_27, r27_30, r27_31, r27_34, r27_35, nI_add, pk_mul, e_sub, e_div, tb_nmod, e_dec, e_le, e_lt, e_eq, e_eq0, e_lt0, e_0le, e_0lt, e_le0, if_true, if_false, not_true_eq_false, not_false_eq_true, ite_true, ite_false, Nat.reduceAdd, Nat.reduceMul, Nat.reduceLeDiff, Nat.reduceLT, Nat.reduceEqDiff, Nat.reduceSub, ↓reduceIte, Nat.reduceDiv, Nat.reduceMod]
  · rw [if_neg q]
    have n1 : ¬ c = 116 := fun e => q (Or.inl e)
    have n2 : ¬ c = 112 := fun e => q (Or.inr (Or.inl e))
    have n3 : ¬ c = 106 := fun e => q (Or.inr (Or.inr (Or.inl e)))
    have n4 : ¬ c = 101 := fun e => q (Or.inr (Or.inr (Or.inr (Or.inl e))))
    have n5 : ¬ c = 46 := fun e => q (Or.inr (Or.inr (Or.inr (Or.inr e))))
    simp (disch := first | assumption | omega | exact tb_sm0 | exact tb_sm1 _ | exact tb_sm2 _ _ | exact tb_sm3 _ _ _ | exact tb_sm4 _ _ _ _ | exact Or.inl rfl | exact Or.inr rfl | fail) only [r27_0, r27_1, r27_3, r27_6, r27_7, r27_9, r27_12, r27_13, r27_15, r27_18, r27_19, r27_21, r27_24, r27_25, r27_27, r27_30, r27_31, r27_34, r27_35, n1, n2, n3, n4, n5, nI_add, pk_mul, e_sub, e_div, tb_nmod, e_dec, e_le, e_lt, e_eq, e_eq0, e_lt0, e_0le, e_0lt, e_le0, if_true, if_false, not_true_eq_false, not_false_eq_true, ite_true, ite_false, Nat.reduceAdd, Nat.reduceMul, Nat.reduceLeDiff, Nat.reduceLT, Nat.reduceEqDiff, Nat.reduceSub, ↓reduceIte, Nat.reduceDiv, Nat.reduceMod]
theorem o_readVerb {p : Nat} (hP : tb_OP h t tx le (true, p) v) (hT : ∀ j, tx j < 65536) (h60 : le ≤ 60) (hr : p ≤ 60) (hd : 1 ≤ d) (hQ1 : p < le ∧ ps_isv (tx p) → ∀ h', tb_OP h' t tx le (true, p + 1) (tx p, v.2) → (∀ q, q ≠ t → h' q = h q) → Q none h' nx) (hQ2 : ¬ (p < le ∧ ps_isv (tx p)) → ∀ h', tb_OP h' t tx le (false, p) v → (∀ q, q ≠ t → h' q = h q) → Q none h' nx) :
    tb_wp E d 26 0 [.ref t] [] h nx 0 0 Q := by
  have g0 := hP.g
  dsimp only at g0
  have hTp := hT p
  have vk : 0 ≤ nI (tx p) ∧ nI (tx p) < 65536 := ⟨by rw [e_0le (by omega)]; trivial, by rw [show (65536 : Int32) = nI 65536 by decide, e_lt (by omega) (by decide)]; exact hTp⟩
  have bad : ¬ (p < le ∧ ps_isv (tx p)) → tb_wp E d 26 26 [.ref t] [] h nx 0 0 Q := by
    intro hn
    simp (disch := first | assumption | omega | exact tb_sm0 | exact tb_sm1 _ | exact tb_sm2 _ _ | exact tb_sm3 _ _ _ | exact tb_sm4 _ _ _ _ | exact Or.inl rfl | exact Or.inr rfl | fail) only [r26_0, r26_1, r26_4, r26_5, r26_8, r26_11, r26_12, r26_15, r26_16, r26_19, r26_20, r26_23, r26_26, r26_27, r26_28, r26_31, r26_32, r26_33, r26_34, r26_37, r26_38, r26_41, r26_42, r26_45, r26_46i, r26_46, r26_47, r26_50, r26_51, r26_52, r26_55]
    refine hP.pf (r' := (false, p)) (v' := v) (le' := le) (by decide) rfl (fun h2 hP2 hF2 => ?_)
    try simp (disch := first | assumption | omega | exact tb_sm0 | exact tb_sm1 _ | exact tb_sm2 _ _ | exact tb_sm3 _ _ _ | exact tb_sm4 _ _ _ _ | exact Or.inl rfl | exact Or.inr rfl | fail) only [r26_0, r26_1, r26_4, r26_5, r26_8, r26_11, r26_12, r26_15, r26_16, r26_19, r26_20, r26_23, r26_26, r26_27, r26_28, r26_31, r26_32, r26_33, r26_34, r26_37, r26_38, r26_41, r26_42, r26_45, r26_46i, r26_46, r26_47, r26_50, r26_51, r26_52, r26_55]
    exact hQ2 hn h2 hP2 hF2
  by_cases c1 : p < le
  · have c1' : ¬ le ≤ p := by omega
    have hp60 : p < 60 := by omega
    have iv := fun {Q' : Option Value → tb_heap → Nat → Prop} => o_isVerb (E := E) (d := d - 1) (h := h) (nx := nx) (Q := Q') hTp
    by_cases c2 : ps_isv (tx p)
    · rw [if_pos c2] at iv
      simp (disch := first | assumption | omega | exact tb_sm0 | exact tb_sm1 _ | exact tb_sm2 _ _ | exact tb_sm3 _ _ _ | exact tb_sm4 _ _ _ _ | exact Or.inl rfl | exact Or.inr rfl | fail) only [r26_0, r26_1, r26_4, r26_5, r26_8, r26_11, r26_12, r26_15, r26_16, r26_19, r26_20, r26_23, r26_26, r26_27, r26_28, r26_31, r26_32, r26_33, r26_34, r26_37, r26_38, r26_41, r26_42, r26_45, r26_46i, r26_46, r26_47, r26_50, r26_51, r26_52, r26_55, g0, c1', hP.ld, iv, tb_vl_some, tb_vl_none, tb_wF_some, nI_add, pk_mul, e_sub, e_div, tb_nmod, e_dec, e_le, e_lt, e_eq, e_eq0, e_lt0, e_0le, e_0lt, e_le0, if_true, if_false, not_true_eq_false, not_false_eq_true, ite_true, ite_false, Nat.reduceAdd, Nat.reduceMul, Nat.reduceLeDiff, Nat.reduceLT, Nat.reduceEqDiff, Nat.reduceSub, ↓reduceIte, Nat.reduceDiv, Nat.reduceMod]
      refine hP.pf (r' := (true, p)) (v' := (tx p, v.2)) (le' := le) (by decide) rfl (fun h2 hP2 hF2 => ?_)
      have g2 := hP2.g
      dsimp only at g2
      simp (disch := first | assumption | omega | exact tb_sm0 | exact tb_sm1 _ | exact tb_sm2 _ _ | exact tb_sm3 _ _ _ | exact tb_sm4 _ _ _ _ | exact Or.inl rfl | exact Or.inr rfl | fail) only [r26_0, r26_1, r26_4, r26_5, r26_8, r26_11, r26_12, r26_15, r26_16, r26_19, r26_20, r26_23, r26_26, r26_27, r26_28, r26_31, r26_32, r26_33, r26_34, r26_37, r26_38, r26_41, r26_42, r26_45, r26_46i, r26_46, r26_47, r26_50, r26_51, r26_52, r26_55, g2, tb_vl_some, tb_vl_none, tb_wF_some, nI_add, pk_mul, e_sub, e_div, tb_nmod, e_dec, e_le, e_lt, e_eq, e_eq0, e_lt0, e_0le, e_0lt, e_le0, if_true, if_false, not_true_eq_false, not_false_eq_true, ite_true, ite_false, Nat.reduceAdd, Nat.reduceMul, Nat.reduceLeDiff, Nat.reduceLT, Nat.reduceEqDiff, Nat.reduceSub, ↓reduceIte, Nat.reduceDiv, Nat.reduceMod]
      refine hP2.pf (r' := (true, p + 1)) (v' := (tx p, v.2)) (le' := le) (by decide) rfl (fun h3 hP3 hF3 => ?_)
      try simp (disch := first | assumption | omega | exact tb_sm0 | exact tb_sm1 _ | exact tb_sm2 _ _ | exact tb_sm3 _ _ _ | exact tb_sm4 _ _ _ _ | exact Or.inl rfl | exact Or.inr rfl | fail) only [r26_0, r26_1, r26_4, r26_5, r26_8, r26_11, r26_12, r26_15, r26_16, r26_19, r26_20, r26_23, r26_26, r26_27, r26_28, r26_31, r26_32, r26_33, r26_34, r26_37, r26_38, r26_41, r26_42, r26_45, r26_46i, r26_46, r26_47, r26_50, r26_51, r26_52, r26_55]
      exact hQ1 ⟨c1, c2⟩ h3 hP3 (fun q hq => by rw [hF3 q hq, hF2 q hq])
    · rw [if_neg c2] at iv
      have b0 := bad (fun q => c2 q.2)
      simp (disch := first | assumption | omega | exact tb_sm0 | exact tb_sm1 _ | exact tb_sm2 _ _ | exact tb_sm3 _ _ _ | exact tb_sm4 _ _ _ _ | exact Or.inl rfl | exact Or.inr rfl | fail) only [r26_0, r26_1, r26_4, r26_5, r26_8, r26_11, r26_12, r26_15, r26_16, r26_19, r26_20, r26_23, r26_27, r26_28, r26_31, r26_32, r26_33, r26_34, r26_37, r26_38, r26_41, r26_42, r26_45, r26_46i, r26_46, r26_47, r26_50, r26_51, r26_52, r26_55, g0, c1', hP.ld, iv, tb_vl_some, tb_vl_none, tb_wF_some, nI_add, pk_mul, e_sub, e_div, tb_nmod, e_dec, e_le, e_lt, e_eq, e_eq0, e_lt0, e_0le, e_0lt, e_le0, if_true, if_false, not_true_eq_false, not_false_eq_true, ite_true, ite_false, Nat.reduceAdd, Nat.reduceMul, Nat.reduceLeDiff, Nat.reduceLT, Nat.reduceEqDiff, Nat.reduceSub, ↓reduceIte, Nat.reduceDiv, Nat.reduceMod]
      exact b0
  · have c1' : le ≤ p := by omega
    have b0 := bad (fun q => c1 q.1)
    simp (disch := first | assumption | omega | exact tb_sm0 | exact tb_sm1 _ | exact tb_sm2 _ _ | exact tb_sm3 _ _ _ | exact tb_sm4 _ _ _ _ | exact Or.inl rfl | exact Or.inr rfl | fail) only [r26_0, r26_1, r26_4, r26_5, r26_8, r26_11, r26_12, r26_15, r26_16, r26_19, r26_20, r26_23, r26_27, r26_28, r26_31, r26_32, r26_33, r26_34, r26_37, r26_38, r26_41, r26_42, r26_45, r26_46i, r26_46, r26_47, r26_50, r26_51, r26_52, r26_55, g0, c1', tb_vl_some, tb_vl_none, tb_wF_some, nI_add, pk_mul, e_sub, e_div, tb_nmod, e_dec, e_le, e_lt, e_eq, e_eq0, e_lt0, e_0le, e_0lt, e_le0, if_true, if_false, not_true_eq_false, not_false_eq_true, ite_true, ite_false, Nat.reduceAdd, Nat.reduceMul, Nat.reduceLeDiff, Nat.reduceLT, Nat.reduceEqDiff, Nat.reduceSub, ↓reduceIte, Nat.reduceDiv, Nat.reduceMod]
    exact b0
theorem o_ro_b {r : Bool × Nat} (hP : tb_OP h t tx le r v) (hv : v.1 < 65536) (hT : ∀ j, tx j < 65536) (h60 : le ≤ 60) (hr : r.2 ≤ le) (hd : 3 ≤ d) (hQ : ∀ h' v', tb_OP h' t tx le (ps_ro tx le v.1 r) v' → v'.1 = v.1 → (∀ q, q ≠ t → h' q = h q) → ((ps_ro tx le v.1 r).1 = true → ps_cv v' (ps_rv tx le v.1 r.2)) → Q none h' nx) :
    tb_wp E d 25 4 [.ref t] [] h nx 0 0 Q := by
  obtain ⟨c, vb, vc, vk, vn⟩ := v
  dsimp only at hv hQ
  have g0 := hP.g
  have hO := hP.O
  dsimp only at g0
  by_cases c1 : c = 46
  · subst c1
    have e : ps_ro tx le 46 r = ps_num tx le 1 99 r := by unfold ps_ro; rw [if_pos rfl]
    have ev : ps_rv tx le 46 r.2 = (46, 0, 0, 0, ps_val tx le 99 r.2) := by unfold ps_rv; rw [if_pos rfl]
    rw [e, ev] at hQ
    simp (disch := first | assumption | omega | exact tb_sm0 | exact tb_sm1 _ | exact tb_sm2 _ _ | exact tb_sm3 _ _ _ | exact tb_sm4 _ _ _ _ | exact Or.inl rfl | exact Or.inr rfl | fail) only [r25_0, r25_1, r25_4, r25_5, r25_8, r25_10, r25_13, r25_14, r25_15, r25_16, r25_17, r25_20, r25_23, r25_24, r25_27, r25_29, r25_32, r25_33, r25_35, r25_38, r25_39, r25_40, r25_41, r25_43, r25_46, r25_49, r25_52, r25_53, r25_56, r25_58, r25_61, r25_62, r25_63, r25_64, r25_66, r25_69, r25_72, r25_73, r25_74, r25_75, r25_76, r25_79, r25_82, r25_83, r25_85, r25_88, r25_89, r25_90, r25_91, r25_93, r25_96, r25_99, r25_102, r25_103, r25_106, r25_108, r25_111, r25_112, r25_113, r25_114, r25_116, r25_119, r25_122, g0, tb_vl_some, tb_vl_none, tb_wF_some, nI_add, pk_mul, e_sub, e_div, tb_nmod, e_dec, e_le, e_lt, e_eq, e_eq0, e_lt0, e_0le, e_0lt, e_le0, if_true, if_false, not_true_eq_false, not_false_eq_true, ite_true, ite_false, Nat.reduceAdd, Nat.reduceMul, Nat.reduceLeDiff, Nat.reduceLT, Nat.reduceEqDiff, Nat.reduceSub, ↓reduceIte, Nat.reduceDiv, Nat.reduceMod]
    refine o_readNumber hP hT h60 (by decide) (by decide) (by omega) (by omega) (fun h2 hP2 hF2 => ?_)
    simp (disch := first | assumption | omega | exact tb_sm0 | exact tb_sm1 _ | exact tb_sm2 _ _ | exact tb_sm3 _ _ _ | exact tb_sm4 _ _ _ _ | exact Or.inl rfl | exact Or.inr rfl | fail) only [r25_0, r25_1, r25_4, r25_5, r25_8, r25_10, r25_13, r25_14, r25_15, r25_16, r25_17, r25_20, r25_23, r25_24, r25_27, r25_29, r25_32, r25_33, r25_35, r25_38, r25_39, r25_40, r25_41, r25_43, r25_46, r25_49, r25_52, r25_53, r25_56, r25_58, r25_61, r25_62, r25_63, r25_64, r25_66, r25_69, r25_72, r25_73, r25_74, r25_75, r25_76, r25_79, r25_82, r25_83, r25_85, r25_88, r25_89, r25_90, r25_91, r25_93, r25_96, r25_99, r25_102, r25_103, r25_106, r25_108, r25_111, r25_112, r25_113, r25_114, r25_116, r25_119, r25_122, tb_vl_some, tb_vl_none, tb_wF_some]
    refine hP2.pf (r' := ps_num tx le 1 99 r) (v' := (46, vb, vc, vk, ps_nv tx le 1 99 r)) (le' := le) (by decide) rfl (fun h3 hP3 hF3 => ?_)
    try simp (disch := first | assumption | omega | exact tb_sm0 | exact tb_sm1 _ | exact tb_sm2 _ _ | exact tb_sm3 _ _ _ | exact tb_sm4 _ _ _ _ | exact Or.inl rfl | exact Or.inr rfl | fail) only [r25_0, r25_1, r25_4, r25_5, r25_8, r25_10, r25_13, r25_14, r25_15, r25_16, r25_17, r25_20, r25_23, r25_24, r25_27, r25_29, r25_32, r25_33, r25_35, r25_38, r25_39, r25_40, r25_41, r25_43, r25_46, r25_49, r25_52, r25_53, r25_56, r25_58, r25_61, r25_62, r25_63, r25_64, r25_66, r25_69, r25_72, r25_73, r25_74, r25_75, r25_76, r25_79, r25_82, r25_83, r25_85, r25_88, r25_89, r25_90, r25_91, r25_93, r25_96, r25_99, r25_102, r25_103, r25_106, r25_108, r25_111, r25_112, r25_113, r25_114, r25_116, r25_119, r25_122]
    refine hQ h3 _ hP3 rfl (fun q hq => by rw [hF3 q hq, hF2 q hq]) (fun q => ⟨rfl, fun n => absurd rfl n, fun n => absurd (show (46 : Nat) = 112 from n) (by decide), fun _ => ?_⟩)
    dsimp only [ps_nv, ps_dv]
    rw [if_pos q]
  · simp (disch := first | assumption | omega | exact tb_sm0 | exact tb_sm1 _ | exact tb_sm2 _ _ | exact tb_sm3 _ _ _ | exact tb_sm4 _ _ _ _ | exact Or.inl rfl | exact Or.inr rfl | fail) only [r25_4, r25_5, r25_8, r25_10, r25_13, r25_14, r25_15, r25_16, r25_17, g0, c1, tb_vl_some, tb_vl_none, tb_wF_some, nI_add, pk_mul, e_sub, e_div, tb_nmod, e_dec, e_le, e_lt, e_eq, e_eq0, e_lt0, e_0le, e_0lt, e_le0, if_true, if_false, not_true_eq_false, not_false_eq_true, ite_true, ite_false, Nat.reduceAdd, Nat.reduceMul, Nat.reduceLeDiff, Nat.reduceLT, Nat.reduceEqDiff, Nat.reduceSub, ↓reduceIte, Nat.reduceDiv, Nat.reduceMod]
    refine o_readDigit hP hT h60 (by decide) (by decide) (by omega) (by omega) (fun h2 hP2 hF2 => ?_)
    simp only [Nat.reduceAdd] at hP2
    simp only [Nat.reduceAdd]
    have l2 := ps_t_le (tx := tx) (lo := 48) (hi := 52) hr
    simp (disch := first | assumption | omega | exact tb_sm0 | exact tb_sm1 _ | exact tb_sm2 _ _ | exact tb_sm3 _ _ _ | exact tb_sm4 _ _ _ _ | exact Or.inl rfl | exact Or.inr rfl | fail) only [r25_20, tb_vl_some, tb_vl_none, tb_wF_some]
    refine hP2.pf (r' := ps_t tx le 48 52 r) (v' := (c, ps_dv tx le 48 52 r, vc, vk, vn)) (le' := le) (by decide) rfl (fun h3 hP3 hF3 => ?_)
    have g3 := hP3.g
    have hO3 := hP3.O
    dsimp only at g3
    have fr3 : ∀ q, q ≠ t → h3 q = h q := fun q hq => by rw [hF3 q hq, hF2 q hq]
    by_cases c2 : c = 116
    · subst c2
      have e : ps_ro tx le 116 r = ps_num tx le 0 90 (ps_t tx le 61 61 (ps_t tx le 48 52 r)) := by unfold ps_ro; rw [if_neg (by decide), if_pos rfl]
      have ev : ps_rv tx le 116 r.2 = (116, tx r.2 - 48, 0, 0, ps_val tx le 90 (r.2 + 2)) := by unfold ps_rv; rw [if_neg (by decide), if_pos rfl]
      rw [e, ev] at hQ
      simp (disch := first | assumption | omega | exact tb_sm0 | exact tb_sm1 _ | exact tb_sm2 _ _ | exact tb_sm3 _ _ _ | exact tb_sm4 _ _ _ _ | exact Or.inl rfl | exact Or.inr rfl | fail) only [r25_0, r25_1, r25_4, r25_5, r25_8, r25_10, r25_13, r25_14, r25_15, r25_16, r25_17, r25_20, r25_23, r25_24, r25_27, r25_29, r25_32, r25_33, r25_35, r25_38, r25_39, r25_40, r25_41, r25_43, r25_46, r25_49, r25_52, r25_53, r25_56, r25_58, r25_61, r25_62, r25_63, r25_64, r25_66, r25_69, r25_72, r25_73, r25_74, r25_75, r25_76, r25_79, r25_82, r25_83, r25_85, r25_88, r25_89, r25_90, r25_91, r25_93, r25_96, r25_99, r25_102, r25_103, r25_106, r25_108, r25_111, r25_112, r25_113, r25_114, r25_116, r25_119, r25_122, g3, tb_vl_some, tb_vl_none, tb_wF_some, nI_add, pk_mul, e_sub, e_div, tb_nmod, e_dec, e_le, e_lt, e_eq, e_eq0, e_lt0, e_0le, e_0lt, e_le0, if_true, if_false, not_true_eq_false, not_false_eq_true, ite_true, ite_false, Nat.reduceAdd, Nat.reduceMul, Nat.reduceLeDiff, Nat.reduceLT, Nat.reduceEqDiff, Nat.reduceSub, ↓reduceIte, Nat.reduceDiv, Nat.reduceMod]
      refine o_readSign hP3 hT h60 (by decide) (by omega) (fun h4 hP4 hF4 => ?_)
      have l4 := ps_t_le (tx := tx) (lo := 61) (hi := 61) l2
      have hO4 := hP4.O
      simp (disch := first | assumption | omega | exact tb_sm0 | exact tb_sm1 _ | exact tb_sm2 _ _ | exact tb_sm3 _ _ _ | exact tb_sm4 _ _ _ _ | exact Or.inl rfl | exact Or.inr rfl | fail) only [r25_0, r25_1, r25_4, r25_5, r25_8, r25_10, r25_13, r25_14, r25_15, r25_16, r25_17, r25_20, r25_23, r25_24, r25_27, r25_29, r25_32, r25_33, r25_35, r25_38, r25_39, r25_40, r25_41, r25_43, r25_46, r25_49, r25_52, r25_53, r25_56, r25_58, r25_61, r25_62, r25_63, r25_64, r25_66, r25_69, r25_72, r25_73, r25_74, r25_75, r25_76, r25_79, r25_82, r25_83, r25_85, r25_88, r25_89, r25_90, r25_91, r25_93, r25_96, r25_99, r25_102, r25_103, r25_106, r25_108, r25_111, r25_112, r25_113, r25_114, r25_116, r25_119, r25_122, tb_vl_some, tb_vl_none, tb_wF_some]
      refine o_readNumber hP4 hT h60 (by decide) (by decide) (by omega) (by omega) (fun h5 hP5 hF5 => ?_)
      simp (disch := first | assumption | omega | exact tb_sm0 | exact tb_sm1 _ | exact tb_sm2 _ _ | exact tb_sm3 _ _ _ | exact tb_sm4 _ _ _ _ | exact Or.inl rfl | exact Or.inr rfl | fail) only [r25_0, r25_1, r25_4, r25_5, r25_8, r25_10, r25_13, r25_14, r25_15, r25_16, r25_17, r25_20, r25_23, r25_24, r25_27, r25_29, r25_32, r25_33, r25_35, r25_38, r25_39, r25_40, r25_41, r25_43, r25_46, r25_49, r25_52, r25_53, r25_56, r25_58, r25_61, r25_62, r25_63, r25_64, r25_66, r25_69, r25_72, r25_73, r25_74, r25_75, r25_76, r25_79, r25_82, r25_83, r25_85, r25_88, r25_89, r25_90, r25_91, r25_93, r25_96, r25_99, r25_102, r25_103, r25_106, r25_108, r25_111, r25_112, r25_113, r25_114, r25_116, r25_119, r25_122, tb_vl_some, tb_vl_none, tb_wF_some]
      refine hP5.pf (r' := ps_num tx le 0 90 (ps_t tx le 61 61 (ps_t tx le 48 52 r))) (v' := (116, ps_dv tx le 48 52 r, vc, vk, ps_nv tx le 0 90 (ps_t tx le 61 61 (ps_t tx le 48 52 r)))) (le' := le) (by decide) rfl (fun h6 hP6 hF6 => ?_)
      try simp (disch := first | assumption | omega | exact tb_sm0 | exact tb_sm1 _ | exact tb_sm2 _ _ | exact tb_sm3 _ _ _ | exact tb_sm4 _ _ _ _ | exact Or.inl rfl | exact Or.inr rfl | fail) only [r25_0, r25_1, r25_4, r25_5, r25_8, r25_10, r25_13, r25_14, r25_15, r25_16, r25_17, r25_20, r25_23, r25_24, r25_27, r25_29, r25_32, r25_33, r25_35, r25_38, r25_39, r25_40, r25_41, r25_43, r25_46, r25_49, r25_52, r25_53, r25_56, r25_58, r25_61, r25_62, r25_63, r25_64, r25_66, r25_69, r25_72, r25_73, r25_74, r25_75, r25_76, r25_79, r25_82, r25_83, r25_85, r25_88, r25_89, r25_90, r25_91, r25_93, r25_96, r25_99, r25_102, r25_103, r25_106, r25_108, r25_111, r25_112, r25_113, r25_114, r25_116, r25_119, r25_122]
      refine hQ h6 _ hP6 rfl (fun q hq => by rw [hF6 q hq, hF5 q hq, hF4 q hq, fr3 q hq]) (fun q => ?_)
      have k1 := (ps_num_ok (by decide) q).1
      obtain ⟨k2, _, _, _, k5⟩ := ps_t_ok k1
      obtain ⟨j2, _, _, _, j5⟩ := ps_t_ok k2
      have e9 : (ps_t tx le 61 61 (ps_t tx le 48 52 r)).2 = r.2 + 2 := by omega
      refine ⟨rfl, fun _ => ?_, fun n => absurd (show (116 : Nat) = 112 from n) (by decide), fun _ => ?_⟩
      · dsimp only [ps_nv, ps_dv]; rw [if_pos k2]
      · dsimp only [ps_nv, ps_dv]; rw [if_pos q, e9]
    · by_cases c3 : c = 112
      · subst c3
        have e : ps_ro tx le 112 r = ps_num tx le 1 99 (ps_t tx le 42 42 (ps_t tx le 48 51 (ps_t tx le 48 55 (ps_t tx le 48 52 r)))) := by unfold ps_ro; rw [if_neg (by decide), if_neg (by decide), if_pos rfl]
        have ev : ps_rv tx le 112 r.2 = (112, tx r.2 - 48, tx (r.2 + 1) - 48, tx (r.2 + 2) - 48, ps_val tx le 99 (r.2 + 4)) := by unfold ps_rv; rw [if_neg (by decide), if_neg (by decide), if_pos rfl]
        rw [e, ev] at hQ
        simp (disch := first | assumption | omega | exact tb_sm0 | exact tb_sm1 _ | exact tb_sm2 _ _ | exact tb_sm3 _ _ _ | exact tb_sm4 _ _ _ _ | exact Or.inl rfl | exact Or.inr rfl | fail) only [r25_0, r25_1, r25_4, r25_5, r25_8, r25_10, r25_13, r25_14, r25_15, r25_16, r25_17, r25_20, r25_23, r25_24, r25_27, r25_29, r25_32, r25_33, r25_35, r25_38, r25_39, r25_40, r25_41, r25_43, r25_46, r25_49, r25_52, r25_53, r25_56, r25_58, r25_61, r25_62, r25_63, r25_64, r25_66, r25_69, r25_72, r25_73, r25_74, r25_75, r25_76, r25_79, r25_82, r25_83, r25_85, r25_88, r25_89, r25_90, r25_91, r25_93, r25_96, r25_99, r25_102, r25_103, r25_106, r25_108, r25_111, r25_112, r25_113, r25_114, r25_116, r25_119, r25_122, g3, tb_vl_some, tb_vl_none, tb_wF_some, nI_add, pk_mul, e_sub, e_div, tb_nmod, e_dec, e_le, e_lt, e_eq, e_eq0, e_lt0, e_0le, e_0lt, e_le0, if_true, if_false, not_true_eq_false, not_false_eq_true, ite_true, ite_false, Nat.reduceAdd, Nat.reduceMul, Nat.reduceLeDiff, Nat.reduceLT, Nat.reduceEqDiff, Nat.reduceSub, ↓reduceIte, Nat.reduceDiv, Nat.reduceMod]
        refine o_readDigit hP3 hT h60 (by decide) (by decide) (by omega) (by omega) (fun h4 hP4 hF4 => ?_)
        simp only [Nat.reduceAdd] at hP4
        simp only [Nat.reduceAdd]
        have l4 := ps_t_le (tx := tx) (lo := 48) (hi := 55) l2
        simp (disch := first | assumption | omega | exact tb_sm0 | exact tb_sm1 _ | exact tb_sm2 _ _ | exact tb_sm3 _ _ _ | exact tb_sm4 _ _ _ _ | exact Or.inl rfl | exact Or.inr rfl | fail) only [r25_0, r25_1, r25_4, r25_5, r25_8, r25_10, r25_13, r25_14, r25_15, r25_16, r25_17, r25_20, r25_23, r25_24, r25_27, r25_29, r25_32, r25_33, r25_35, r25_38, r25_39, r25_40, r25_41, r25_43, r25_46, r25_49, r25_52, r25_53, r25_56, r25_58, r25_61, r25_62, r25_63, r25_64, r25_66, r25_69, r25_72, r25_73, r25_74, r25_75, r25_76, r25_79, r25_82, r25_83, r25_85, r25_88, r25_89, r25_90, r25_91, r25_93, r25_96, r25_99, r25_102, r25_103, r25_106, r25_108, r25_111, r25_112, r25_113, r25_114, r25_116, r25_119, r25_122, tb_vl_some, tb_vl_none, tb_wF_some]
        refine hP4.pf (r' := ps_t tx le 48 55 (ps_t tx le 48 52 r)) (v' := (112, ps_dv tx le 48 52 r, ps_dv tx le 48 55 (ps_t tx le 48 52 r), vk, vn)) (le' := le) (by decide) rfl (fun h5 hP5 hF5 => ?_)
        have hO5 := hP5.O
        simp (disch := first | assumption | omega | exact tb_sm0 | exact tb_sm1 _ | exact tb_sm2 _ _ | exact tb_sm3 _ _ _ | exact tb_sm4 _ _ _ _ | exact Or.inl rfl | exact Or.inr rfl | fail) only [r25_0, r25_1, r25_4, r25_5, r25_8, r25_10, r25_13, r25_14, r25_15, r25_16, r25_17, r25_20, r25_23, r25_24, r25_27, r25_29, r25_32, r25_33, r25_35, r25_38, r25_39, r25_40, r25_41, r25_43, r25_46, r25_49, r25_52, r25_53, r25_56, r25_58, r25_61, r25_62, r25_63, r25_64, r25_66, r25_69, r25_72, r25_73, r25_74, r25_75, r25_76, r25_79, r25_82, r25_83, r25_85, r25_88, r25_89, r25_90, r25_91, r25_93, r25_96, r25_99, r25_102, r25_103, r25_106, r25_108, r25_111, r25_112, r25_113, r25_114, r25_116, r25_119, r25_122, tb_vl_some, tb_vl_none, tb_wF_some]
        refine o_readDigit hP5 hT h60 (by decide) (by decide) (by omega) (by omega) (fun h6 hP6 hF6 => ?_)
        simp only [Nat.reduceAdd] at hP6
        simp only [Nat.reduceAdd]
        have l6 := ps_t_le (tx := tx) (lo := 48) (hi := 51) l4
        simp (disch := first | assumption | omega | exact tb_sm0 | exact tb_sm1 _ | exact tb_sm2 _ _ | exact tb_sm3 _ _ _ | exact tb_sm4 _ _ _ _ | exact Or.inl rfl | exact Or.inr rfl | fail) only [r25_0, r25_1, r25_4, r25_5, r25_8, r25_10, r25_13, r25_14, r25_15, r25_16, r25_17, r25_20, r25_23, r25_24, r25_27, r25_29, r25_32, r25_33, r25_35, r25_38, r25_39, r25_40, r25_41, r25_43, r25_46, r25_49, r25_52, r25_53, r25_56, r25_58, r25_61, r25_62, r25_63, r25_64, r25_66, r25_69, r25_72, r25_73, r25_74, r25_75, r25_76, r25_79, r25_82, r25_83, r25_85, r25_88, r25_89, r25_90, r25_91, r25_93, r25_96, r25_99, r25_102, r25_103, r25_106, r25_108, r25_111, r25_112, r25_113, r25_114, r25_116, r25_119, r25_122, tb_vl_some, tb_vl_none, tb_wF_some]
        refine hP6.pf (r' := ps_t tx le 48 51 (ps_t tx le 48 55 (ps_t tx le 48 52 r))) (v' := (112, ps_dv tx le 48 52 r, ps_dv tx le 48 55 (ps_t tx le 48 52 r), ps_dv tx le 48 51 (ps_t tx le 48 55 (ps_t tx le 48 52 r)), vn)) (le' := le) (by decide) rfl (fun h7 hP7 hF7 => ?_)
        have hO7 := hP7.O
        simp (disch := first | assumption | omega | exact tb_sm0 | exact tb_sm1 _ | exact tb_sm2 _ _ | exact tb_sm3 _ _ _ | exact tb_sm4 _ _ _ _ | exact Or.inl rfl | exact Or.inr rfl | fail) only [r25_0, r25_1, r25_4, r25_5, r25_8, r25_10, r25_13, r25_14, r25_15, r25_16, r25_17, r25_20, r25_23, r25_24, r25_27, r25_29, r25_32, r25_33, r25_35, r25_38, r25_39, r25_40, r25_41, r25_43, r25_46, r25_49, r25_52, r25_53, r25_56, r25_58, r25_61, r25_62, r25_63, r25_64, r25_66, r25_69, r25_72, r25_73, r25_74, r25_75, r25_76, r25_79, r25_82, r25_83, r25_85, r25_88, r25_89, r25_90, r25_91, r25_93, r25_96, r25_99, r25_102, r25_103, r25_106, r25_108, r25_111, r25_112, r25_113, r25_114, r25_116, r25_119, r25_122, tb_vl_some, tb_vl_none, tb_wF_some]
        refine o_readSign hP7 hT h60 (by decide) (by omega) (fun h8 hP8 hF8 => ?_)
        have l8 := ps_t_le (tx := tx) (lo := 42) (hi := 42) l6
        have hO8 := hP8.O
        simp (disch := first | assumption | omega | exact tb_sm0 | exact tb_sm1 _ | exact tb_sm2 _ _ | exact tb_sm3 _ _ _ | exact tb_sm4 _ _ _ _ | exact Or.inl rfl | exact Or.inr rfl | fail) only [r25_0, r25_1, r25_4, r25_5, r25_8, r25_10, r25_13, r25_14, r25_15, r25_16, r25_17, r25_20, r25_23, r25_24, r25_27, r25_29, r25_32, r25_33, r25_35, r25_38, r25_39, r25_40, r25_41, r25_43, r25_46, r25_49, r25_52, r25_53, r25_56, r25_58, r25_61, r25_62, r25_63, r25_64, r25_66, r25_69, r25_72, r25_73, r25_74, r25_75, r25_76, r25_79, r25_82, r25_83, r25_85, r25_88, r25_89, r25_90, r25_91, r25_93, r25_96, r25_99, r25_102, r25_103, r25_106, r25_108, r25_111, r25_112, r25_113, r25_114, r25_116, r25_119, r25_122, tb_vl_some, tb_vl_none, tb_wF_some]
        refine o_readNumber hP8 hT h60 (by decide) (by decide) (by omega) (by omega) (fun h9 hP9 hF9 => ?_)
        simp (disch := first | assumption | omega | exact tb_sm0 | exact tb_sm1 _ | exact tb_sm2 _ _ | exact tb_sm3 _ _ _ | exact tb_sm4 _ _ _ _ | exact Or.inl rfl | exact Or.inr rfl | fail) only [r25_0, r25_1, r25_4, r25_5, r25_8, r25_10, r25_13, r25_14, r25_15, r25_16, r25_17, r25_20, r25_23, r25_24, r25_27, r25_29, r25_32, r25_33, r25_35, r25_38, r25_39, r25_40, r25_41, r25_43, r25_46, r25_49, r25_52, r25_53, r25_56, r25_58, r25_61, r25_62, r25_63, r25_64, r25_66, r25_69, r25_72, r25_73, r25_74, r25_75, r25_76, r25_79, r25_82, r25_83, r25_85, r25_88, r25_89, r25_90, r25_91, r25_93, r25_96, r25_99, r25_102, r25_103, r25_106, r25_108, r25_111, r25_112, r25_113, r25_114, r25_116, r25_119, r25_122, tb_vl_some, tb_vl_none, tb_wF_some]
        refine hP9.pf (r' := ps_num tx le 1 99 (ps_t tx le 42 42 (ps_t tx le 48 51 (ps_t tx le 48 55 (ps_t tx le 48 52 r))))) (v' := (112, ps_dv tx le 48 52 r, ps_dv tx le 48 55 (ps_t tx le 48 52 r), ps_dv tx le 48 51 (ps_t tx le 48 55 (ps_t tx le 48 52 r)), ps_nv tx le 1 99 (ps_t tx le 42 42 (ps_t tx le 48 51 (ps_t tx le 48 55 (ps_t tx le 48 52 r)))))) (le' := le) (by decide) rfl (fun h10 hP10 hF10 => ?_)
        try simp (disch := first | assumption | omega | exact tb_sm0 | exact tb_sm1 _ | exact tb_sm2 _ _ | exact tb_sm3 _ _ _ | exact tb_sm4 _ _ _ _ | exact Or.inl rfl | exact Or.inr rfl | fail) only [r25_0, r25_1, r25_4, r25_5, r25_8, r25_10, r25_13, r25_14, r25_15, r25_16, r25_17, r25_20, r25_23, r25_24, r25_27, r25_29, r25_32, r25_33, r25_35, r25_38, r25_39, r25_40, r25_41, r25_43, r25_46, r25_49, r25_52, r25_53, r25_56, r25_58, r25_61, r25_62, r25_63, r25_64, r25_66, r25_69, r25_72, r25_73, r25_74, r25_75, r25_76, r25_79, r25_82, r25_83, r25_85, r25_88, r25_89, r25_90, r25_91, r25_93, r25_96, r25_99, r25_102, r25_103, r25_106, r25_108, r25_111, r25_112, r25_113, r25_114, r25_116, r25_119, r25_122]
        refine hQ h10 _ hP10 rfl (fun q hq => by rw [hF10 q hq, hF9 q hq, hF8 q hq, hF7 q hq, hF6 q hq, hF5 q hq, hF4 q hq, fr3 q hq]) (fun q => ?_)
        have k1 := (ps_num_ok (by decide) q).1
        obtain ⟨k2, _, _, _, k5⟩ := ps_t_ok k1
        obtain ⟨j2, _, _, _, j5⟩ := ps_t_ok k2
        obtain ⟨i2, _, _, _, i5⟩ := ps_t_ok j2
        obtain ⟨l2', _, _, _, l5⟩ := ps_t_ok i2
        have e9 : (ps_t tx le 42 42 (ps_t tx le 48 51 (ps_t tx le 48 55 (ps_t tx le 48 52 r)))).2 = r.2 + 4 := by omega
        have e8 : (ps_t tx le 48 55 (ps_t tx le 48 52 r)).2 = r.2 + 2 := by omega
        refine ⟨rfl, fun _ => ?_, fun _ => ⟨?_, ?_⟩, fun _ => ?_⟩
        · dsimp only [ps_nv, ps_dv]; rw [if_pos i2]
        · dsimp only [ps_nv, ps_dv]; rw [if_pos j2, l5]
        · dsimp only [ps_nv, ps_dv]; rw [if_pos k2, e8]
        · dsimp only [ps_nv, ps_dv]; rw [if_pos q, e9]
      · have e : ps_ro tx le c r = ps_t tx le 48 52 r := by unfold ps_ro; rw [if_neg c1, if_neg c2, if_neg c3]
        have ev : ps_rv tx le c r.2 = (c, tx r.2 - 48, 0, 0, 0) := by unfold ps_rv; rw [if_neg c1, if_neg c2, if_neg c3]
        rw [e, ev] at hQ
        simp (disch := first | assumption | omega | exact tb_sm0 | exact tb_sm1 _ | exact tb_sm2 _ _ | exact tb_sm3 _ _ _ | exact tb_sm4 _ _ _ _ | exact Or.inl rfl | exact Or.inr rfl | fail) only [r25_0, r25_1, r25_4, r25_5, r25_8, r25_10, r25_13, r25_14, r25_15, r25_16, r25_17, r25_20, r25_23, r25_24, r25_27, r25_29, r25_32, r25_33, r25_35, r25_38, r25_39, r25_40, r25_41, r25_43, r25_46, r25_49, r25_52, r25_53, r25_56, r25_58, r25_61, r25_62, r25_63, r25_64, r25_66, r25_69, r25_72, r25_73, r25_74, r25_75, r25_76, r25_79, r25_82, r25_83, r25_85, r25_88, r25_89, r25_90, r25_91, r25_93, r25_96, r25_99, r25_102, r25_103, r25_106, r25_108, r25_111, r25_112, r25_113, r25_114, r25_116, r25_119, r25_122, g3, c1, c2, c3, tb_vl_some, tb_vl_none, tb_wF_some, nI_add, pk_mul, e_sub, e_div, tb_nmod, e_dec, e_le, e_lt, e_eq, e_eq0, e_lt0, e_0le, e_0lt, e_le0, if_true, if_false, not_true_eq_false, not_false_eq_true, ite_true, ite_false, Nat.reduceAdd, Nat.reduceMul, Nat.reduceLeDiff, Nat.reduceLT, Nat.reduceEqDiff, Nat.reduceSub, ↓reduceIte, Nat.reduceDiv, Nat.reduceMod]
        refine hQ h3 _ hP3 rfl fr3 (fun q => ⟨rfl, fun _ => ?_, fun n => absurd n c3, fun n => ?_⟩)
        · dsimp only [ps_nv, ps_dv]; rw [if_pos q]
        · rcases n with n | n | n
          · exact absurd n c1
          · exact absurd n c2
          · exact absurd n c3
theorem o_readOrder {p : Nat} (hP : tb_OP h t tx le (true, p) v) (hv : v.1 < 65536) (hT : ∀ j, tx j < 65536) (h60 : le ≤ 60) (hr : p ≤ le) (hd : 4 ≤ d) (hQ : ∀ h' v', tb_OP h' t tx le (ps_ord tx le p).1 v' → v'.1 < 65536 → (∀ q, q ≠ t → h' q = h q) → ((ps_ord tx le p).1.1 = true → ps_cv v' (ps_ord tx le p).2) → Q none h' nx) :
    tb_wp E d 25 0 [.ref t] [] h nx 0 0 Q := by
  have hO := hP.O
  simp (disch := first | assumption | omega | exact tb_sm0 | exact tb_sm1 _ | exact tb_sm2 _ _ | exact tb_sm3 _ _ _ | exact tb_sm4 _ _ _ _ | exact Or.inl rfl | exact Or.inr rfl | fail) only [r25_0, r25_1]
  refine o_readVerb hP hT h60 (by omega) (by omega) (fun hy h2 hP2 hF2 => ?_) (fun hn h2 hP2 hF2 => ?_)
  · simp (disch := first | assumption | omega | exact tb_sm0 | exact tb_sm1 _ | exact tb_sm2 _ _ | exact tb_sm3 _ _ _ | exact tb_sm4 _ _ _ _ | exact Or.inl rfl | exact Or.inr rfl | fail) only [tb_vl_some, tb_vl_none, tb_wF_some, Nat.reduceAdd]
    rw [ps_ord_ro hy] at hQ
    refine o_ro_b hP2 (hT p) hT h60 hy.1 (by omega) (fun h3 v3 hP3 hv3 hF3 hc3 => hQ h3 v3 hP3 (by rw [hv3]; exact hT p) (fun q hq => by rw [hF3 q hq, hF2 q hq]) hc3)
  · simp (disch := first | assumption | omega | exact tb_sm0 | exact tb_sm1 _ | exact tb_sm2 _ _ | exact tb_sm3 _ _ _ | exact tb_sm4 _ _ _ _ | exact Or.inl rfl | exact Or.inr rfl | fail) only [tb_vl_some, tb_vl_none, tb_wF_some, Nat.reduceAdd]
    have e : ps_ord tx le p = ((false, p), (0, 0, 0, 0, 0)) := by unfold ps_ord; rw [if_pos hn]
    rw [e] at hQ
    refine o_ro_b hP2 hv hT h60 hr (by omega) (fun h3 v3 hP3 hv3 hF3 hc3 => ?_)
    rw [ps_ro_ff] at hP3
    exact hQ h3 v3 hP3 (by rw [hv3]; exact hv) (fun q hq => by rw [hF3 q hq, hF2 q hq]) (fun q => by cases q)
def ps_nx (tx : Nat → Nat) (le p : Nat) : (Bool × Nat) × Nat := if (ps_ord tx le p).1.1 = true ∧ (ps_ord tx le p).1.2 < le then (ps_t tx le 59 59 (ps_ord tx le p).1, if (ps_t tx le 59 59 (ps_ord tx le p).1).1 = true then 1 else 0) else ((ps_ord tx le p).1, 0)
theorem o_readNext {p : Nat} (hP : tb_OP h t tx le (true, p) v) (hv : v.1 < 65536) (hT : ∀ j, tx j < 65536) (h60 : le ≤ 60) (hr : p ≤ le) (hd : 5 ≤ d) (hQ : ∀ h' v', tb_OP h' t tx le (ps_nx tx le p).1 v' → v'.1 < 65536 → (∀ q, q ≠ t → h' q = h q) → ((ps_ord tx le p).1.1 = true → ps_cv v' (ps_ord tx le p).2) → Q (some (.int (nI (ps_nx tx le p).2))) h' nx) :
    tb_wp E d 24 0 [.ref t] [] h nx 0 0 Q := by
  have hO := hP.O
  simp (disch := first | assumption | omega | exact tb_sm0 | exact tb_sm1 _ | exact tb_sm2 _ _ | exact tb_sm3 _ _ _ | exact tb_sm4 _ _ _ _ | exact Or.inl rfl | exact Or.inr rfl | fail) only [r24_0, r24_1]
  refine o_readOrder hP hv hT h60 hr (by omega) (fun h2 v2 hP2 hv2 hF2 hc2 => ?_)
  have hle := ps_ord_le (tx := tx) hr
  unfold ps_nx at hQ
  generalize ps_ord tx le p = o at *
  obtain ⟨⟨ok, p2⟩, w⟩ := o
  dsimp only at hP2 hle hQ
  have g2 := hP2.g
  have hO2 := hP2.O
  dsimp only at g2
  cases ok with
  | false =>
    have e0 : ps_w false = 1 := rfl
    rw [if_neg (fun q => by cases q.1)] at hQ
    simp (disch := first | assumption | omega | exact tb_sm0 | exact tb_sm1 _ | exact tb_sm2 _ _ | exact tb_sm3 _ _ _ | exact tb_sm4 _ _ _ _ | exact Or.inl rfl | exact Or.inr rfl | fail) only [r24_0, r24_1, r24_4, r24_5, r24_8, r24_11, r24_12, r24_15, r24_16, r24_19, r24_22, r24_23, r24_24, r24_25, r24_27, r24_30, r24_31, r24_34, r24_37, r24_38, r24_41, r24_42, g2, e0, tb_vl_some, tb_vl_none, tb_wF_some, nI_add, pk_mul, e_sub, e_div, tb_nmod, e_dec, e_le, e_lt, e_eq, e_eq0, e_lt0, e_0le, e_0lt, e_le0, if_true, if_false, not_true_eq_false, not_false_eq_true, ite_true, ite_false, Nat.reduceAdd, Nat.reduceMul, Nat.reduceLeDiff, Nat.reduceLT, Nat.reduceEqDiff, Nat.reduceSub, ↓reduceIte, Nat.reduceDiv, Nat.reduceMod]
    exact hQ h2 v2 hP2 hv2 hF2 hc2
  | true =>
    have e0 : ps_w true = 0 := rfl
    by_cases c1 : p2 < le
    · rw [if_pos ⟨rfl, c1⟩] at hQ
      simp (disch := first | assumption | omega | exact tb_sm0 | exact tb_sm1 _ | exact tb_sm2 _ _ | exact tb_sm3 _ _ _ | exact tb_sm4 _ _ _ _ | exact Or.inl rfl | exact Or.inr rfl | fail) only [r24_0, r24_1, r24_4, r24_5, r24_8, r24_11, r24_12, r24_15, r24_16, r24_19, r24_22, r24_23, r24_24, r24_25, r24_27, r24_30, r24_31, r24_34, r24_37, r24_38, r24_41, r24_42, g2, e0, c1, tb_vl_some, tb_vl_none, tb_wF_some, nI_add, pk_mul, e_sub, e_div, tb_nmod, e_dec, e_le, e_lt, e_eq, e_eq0, e_lt0, e_0le, e_0lt, e_le0, if_true, if_false, not_true_eq_false, not_false_eq_true, ite_true, ite_false, Nat.reduceAdd, Nat.reduceMul, Nat.reduceLeDiff, Nat.reduceLT, Nat.reduceEqDiff, Nat.reduceSub, ↓reduceIte, Nat.reduceDiv, Nat.reduceMod]
      refine o_readSign hP2 hT h60 (by decide) (by dsimp only; omega) (fun h3 hP3 hF3 => ?_)
      have q := hQ h3 v2 hP3 hv2 (fun q hq => by rw [hF3 q hq, hF2 q hq]) hc2
      have g3 := hP3.g
      by_cases c2 : (ps_t tx le 59 59 (true, p2)).1 = true
      · have e3 : ps_w (ps_t tx le 59 59 (true, p2)).1 = 0 := by rw [c2]; rfl
        rw [if_pos c2] at q
        simp (disch := first | assumption | omega | exact tb_sm0 | exact tb_sm1 _ | exact tb_sm2 _ _ | exact tb_sm3 _ _ _ | exact tb_sm4 _ _ _ _ | exact Or.inl rfl | exact Or.inr rfl | fail) only [r24_0, r24_1, r24_4, r24_5, r24_8, r24_11, r24_12, r24_15, r24_16, r24_19, r24_22, r24_23, r24_24, r24_25, r24_27, r24_30, r24_31, r24_34, r24_37, r24_38, r24_41, r24_42, g3, e3, tb_vl_some, tb_vl_none, tb_wF_some, nI_add, pk_mul, e_sub, e_div, tb_nmod, e_dec, e_le, e_lt, e_eq, e_eq0, e_lt0, e_0le, e_0lt, e_le0, if_true, if_false, not_true_eq_false, not_false_eq_true, ite_true, ite_false, Nat.reduceAdd, Nat.reduceMul, Nat.reduceLeDiff, Nat.reduceLT, Nat.reduceEqDiff, Nat.reduceSub, ↓reduceIte, Nat.reduceDiv, Nat.reduceMod]
        exact q
      · have e3 : ps_w (ps_t tx le 59 59 (true, p2)).1 = 1 := by rw [ps_t_f c2]; rfl
        rw [if_neg c2] at q
        simp (disch := first | assumption | omega | exact tb_sm0 | exact tb_sm1 _ | exact tb_sm2 _ _ | exact tb_sm3 _ _ _ | exact tb_sm4 _ _ _ _ | exact Or.inl rfl | exact Or.inr rfl | fail) only [r24_0, r24_1, r24_4, r24_5, r24_8, r24_11, r24_12, r24_15, r24_16, r24_19, r24_22, r24_23, r24_24, r24_25, r24_27, r24_30, r24_31, r24_34, r24_37, r24_38, r24_41, r24_42, g3, e3, tb_vl_some, tb_vl_none, tb_wF_some, nI_add, pk_mul, e_sub, e_div, tb_nmod, e_dec, e_le, e_lt, e_eq, e_eq0, e_lt0, e_0le, e_0lt, e_le0, if_true, if_false, not_true_eq_false, not_false_eq_true, ite_true, ite_false, Nat.reduceAdd, Nat.reduceMul, Nat.reduceLeDiff, Nat.reduceLT, Nat.reduceEqDiff, Nat.reduceSub, ↓reduceIte, Nat.reduceDiv, Nat.reduceMod]
        exact q
    · rw [if_neg (fun q => c1 q.2)] at hQ
      simp (disch := first | assumption | omega | exact tb_sm0 | exact tb_sm1 _ | exact tb_sm2 _ _ | exact tb_sm3 _ _ _ | exact tb_sm4 _ _ _ _ | exact Or.inl rfl | exact Or.inr rfl | fail) only [r24_0, r24_1, r24_4, r24_5, r24_8, r24_11, r24_12, r24_15, r24_16, r24_19, r24_22, r24_23, r24_24, r24_25, r24_27, r24_30, r24_31, r24_34, r24_37, r24_38, r24_41, r24_42, g2, e0, c1, tb_vl_some, tb_vl_none, tb_wF_some, nI_add, pk_mul, e_sub, e_div, tb_nmod, e_dec, e_le, e_lt, e_eq, e_eq0, e_lt0, e_0le, e_0lt, e_le0, if_true, if_false, not_true_eq_false, not_false_eq_true, ite_true, ite_false, Nat.reduceAdd, Nat.reduceMul, Nat.reduceLeDiff, Nat.reduceLT, Nat.reduceEqDiff, Nat.reduceSub, ↓reduceIte, Nat.reduceDiv, Nat.reduceMod]
      exact hQ h2 v2 hP2 hv2 hF2 hc2
theorem o_all_l (hT : ∀ j, tx j < 65536) (h60 : le ≤ 60) (hd : 6 ≤ d) (f : Nat) : ∀ (p n : Nat) (h : tb_heap) (v : ps_V), le + 1 ≤ p + f → p ≤ le → 2 * n ≤ p → v.1 < 65536 → tb_OP h t tx le (true, p) v → (∀ h' v', tb_OP h' t tx le ((ps_go tx le f p n).1, (ps_go tx le f p n).2.1) v' → v'.1 < 65536 → (∀ q, q ≠ t → h' q = h q) → Q (some (.int (nI (ps_go tx le f p n).2.2))) h' nx) →
    tb_wp E d 22 8 [.ref t, .int (nI n), .int (nI 1)] [] h nx 0 0 Q := by
  induction f with
  | zero => intro p n h v h1 h2 h3 hv hP hQ; exact absurd h1 (by omega)
  | succ f ih =>
    intro p n h v h1 h2 h3 hv hP hQ
    have hO := hP.O
    have hn60 : ¬ 60 ≤ n := by omega
    have hend : ∀ (h' : tb_heap) (n' : Nat), Q (some (.int (nI n'))) h' nx → tb_wp E d 22 8 [.ref t, .int (nI n'), .int (nI 0)] [] h' nx 0 0 Q := by
      intro h' n' hq
      simp (disch := first | assumption | omega | exact tb_sm0 | exact tb_sm1 _ | exact tb_sm2 _ _ | exact tb_sm3 _ _ _ | exact tb_sm4 _ _ _ _ | exact Or.inl rfl | exact Or.inr rfl | fail) only [r22_0, r22_1, r22_4, r22_5, r22_6, r22_7, r22_8, r22_9, r22_12, r22_13, r22_15, r22_18, r22_19, r22_22, r22_23, r22_26, r22_29, r22_30, nI_add, pk_mul, e_sub, e_div, tb_nmod, e_dec, e_le, e_lt, e_eq, e_eq0, e_lt0, e_0le, e_0lt, e_le0, if_true, if_false, not_true_eq_false, not_false_eq_true, ite_true, ite_false, Nat.reduceAdd, Nat.reduceMul, Nat.reduceLeDiff, Nat.reduceLT, Nat.reduceEqDiff, Nat.reduceSub, ↓reduceIte, Nat.reduceDiv, Nat.reduceMod]
      exact hq
    simp (disch := first | assumption | omega | exact tb_sm0 | exact tb_sm1 _ | exact tb_sm2 _ _ | exact tb_sm3 _ _ _ | exact tb_sm4 _ _ _ _ | exact Or.inl rfl | exact Or.inr rfl | fail) only [r22_8, r22_9, r22_12, r22_13, r22_15, r22_18, r22_19, hn60, nI_add, pk_mul, e_sub, e_div, tb_nmod, e_dec, e_le, e_lt, e_eq, e_eq0, e_lt0, e_0le, e_0lt, e_le0, if_true, if_false, not_true_eq_false, not_false_eq_true, ite_true, ite_false, Nat.reduceAdd, Nat.reduceMul, Nat.reduceLeDiff, Nat.reduceLT, Nat.reduceEqDiff, Nat.reduceSub, ↓reduceIte, Nat.reduceDiv, Nat.reduceMod]
    refine o_readNext hP hv hT h60 h2 (by omega) (fun h4 v4 hP4 hv4 hF4 hc4 => ?_)
    simp (disch := first | assumption | omega | exact tb_sm0 | exact tb_sm1 _ | exact tb_sm2 _ _ | exact tb_sm3 _ _ _ | exact tb_sm4 _ _ _ _ | exact Or.inl rfl | exact Or.inr rfl | fail) only [r22_22, r22_23, r22_26, tb_vl_some, tb_vl_none, tb_wF_some, nI_add, pk_mul, e_sub, e_div, tb_nmod, e_dec, e_le, e_lt, e_eq, e_eq0, e_lt0, e_0le, e_0lt, e_le0, if_true, if_false, not_true_eq_false, not_false_eq_true, ite_true, ite_false, Nat.reduceAdd, Nat.reduceMul, Nat.reduceLeDiff, Nat.reduceLT, Nat.reduceEqDiff, Nat.reduceSub, ↓reduceIte, Nat.reduceDiv, Nat.reduceMod]
    have hok := ps_ord_ok (tx := tx) (le := le) (p := p)
    rw [ps_go] at hQ
    unfold ps_nx at hP4 ⊢
    generalize ps_ord tx le p = o at *
    obtain ⟨⟨ok, p2⟩, w⟩ := o
    dsimp only at hok hQ hP4 ⊢
    cases ok with
    | false =>
      rw [if_neg Bool.false_ne_true] at hQ
      rw [if_neg (fun q => by cases q.1)] at hP4 ⊢
      exact hend _ _ (hQ h4 v4 hP4 hv4 hF4)
    | true =>
      obtain ⟨k1, k2, -⟩ := hok rfl
      rw [if_pos rfl] at hQ
      by_cases c1 : p2 < le
      · rw [if_pos c1] at hQ
        rw [if_pos ⟨rfl, c1⟩] at hP4 ⊢
        by_cases c2 : (ps_t tx le 59 59 (true, p2)).1 = true
        · rw [if_pos c2] at hQ
          have e4 : ps_t tx le 59 59 (true, p2) = (true, p2 + 1) := Prod.ext c2 (ps_t_ok c2).2.2.2.2
          dsimp only at hP4 ⊢
          rw [e4] at hP4 ⊢
          rw [if_pos rfl]
          exact ih (p2 + 1) (n + 1) h4 v4 (by omega) (by omega) (by omega) hv4 hP4 (fun h5 v5 h51 h52 h53 => hQ h5 v5 h51 h52 (fun q hq => by rw [h53 q hq, hF4 q hq]))
        · rw [if_neg c2] at hQ
          dsimp only at hP4 ⊢
          rw [ps_t_f c2] at hP4 ⊢
          rw [if_neg Bool.false_ne_true]
          exact hend _ _ (hQ h4 v4 hP4 hv4 hF4)
      · rw [if_neg c1] at hQ
        rw [if_neg (fun q => c1 q.2)] at hP4 ⊢
        exact hend _ _ (hQ h4 v4 hP4 hv4 hF4)
theorem o_readFromStart {r : Bool × Nat} (hP : tb_OP h t tx le r v) (hQ : ∀ h', tb_OP h' t tx le (true, 0) v → (∀ q, q ≠ t → h' q = h q) → Q none h' nx) :
    tb_wp E d 23 0 [.ref t] [] h nx 0 0 Q := by
  simp (disch := first | assumption | omega | exact tb_sm0 | exact tb_sm1 _ | exact tb_sm2 _ _ | exact tb_sm3 _ _ _ | exact tb_sm4 _ _ _ _ | exact Or.inl rfl | exact Or.inr rfl | fail) only [r23_0, r23_1, r23_2, r23_5, r23_6, r23_7, r23_10]
  refine hP.pf (r' := (r.1, 0)) (v' := v) (le' := le) (by decide) rfl (fun h2 hP2 hF2 => ?_)
  refine hP2.pf (r' := (true, 0)) (v' := v) (le' := le) (by decide) rfl (fun h3 hP3 hF3 => ?_)
  try simp (disch := first | assumption | omega | exact tb_sm0 | exact tb_sm1 _ | exact tb_sm2 _ _ | exact tb_sm3 _ _ _ | exact tb_sm4 _ _ _ _ | exact Or.inl rfl | exact Or.inr rfl | fail) only [r23_0, r23_1, r23_2, r23_5, r23_6, r23_7, r23_10]
  exact hQ h3 hP3 (fun q hq => by rw [hF3 q hq, hF2 q hq])
theorem o_readAll {r : Bool × Nat} (hP : tb_OP h t tx le r v) (hv : v.1 < 65536) (hT : ∀ j, tx j < 65536) (h60 : le ≤ 60) (hd : 6 ≤ d) (hQ : ∀ h' v', tb_OP h' t tx le ((ps_go tx le 61 0 0).1, (ps_go tx le 61 0 0).2.1) v' → v'.1 < 65536 → (∀ q, q ≠ t → h' q = h q) → Q (some (.int (nI (ps_go tx le 61 0 0).2.2))) h' nx) :
    tb_wp E d 22 0 [.ref t, .long 0, .long 0] [] h nx 0 0 Q := by
  have hO := hP.O
  simp (disch := first | assumption | omega | exact tb_sm0 | exact tb_sm1 _ | exact tb_sm2 _ _ | exact tb_sm3 _ _ _ | exact tb_sm4 _ _ _ _ | exact Or.inl rfl | exact Or.inr rfl | fail) only [r22_0, r22_1]
  refine o_readFromStart hP (fun h2 hP2 hF2 => ?_)
  simp (disch := first | assumption | omega | exact tb_sm0 | exact tb_sm1 _ | exact tb_sm2 _ _ | exact tb_sm3 _ _ _ | exact tb_sm4 _ _ _ _ | exact Or.inl rfl | exact Or.inr rfl | fail) only [r22_4, r22_5, r22_6, r22_7, tb_vl_some, tb_vl_none, tb_wF_some, Nat.reduceAdd]
  exact o_all_l hT h60 hd 61 0 0 h2 v (by omega) (by omega) (by omega) hv hP2 (fun h3 v3 h31 h32 h33 => hQ h3 v3 h31 h32 (fun q hq => by rw [h33 q hq, hF2 q hq]))
theorem o_append_f {r : Bool × Nat} {c : Int32} (hP : tb_OP h t tx 60 r v) : tb_wp E d 20 0 [.ref t, .int c] [] h nx 0 0 Q = Q (some (.int (-3))) h nx := by
  have g0 := hP.g
  simp (disch := first | assumption | omega | exact tb_sm0 | exact tb_sm1 _ | exact tb_sm2 _ _ | exact tb_sm3 _ _ _ | exact tb_sm4 _ _ _ _ | exact Or.inl rfl | exact Or.inr rfl | fail) only [r20_0, r20_1, r20_4, r20_6, r20_9, r20_11, r20_12, r20_13, r20_16, r20_17, r20_20, r20_21, r20_22, r20_23i, r20_23, r20_24, r20_27, r20_28, r20_29, r20_32, r20_33, r20_36, g0, tb_vl_some, tb_vl_none, tb_wF_some, nI_add, pk_mul, e_sub, e_div, tb_nmod, e_dec, e_le, e_lt, e_eq, e_eq0, e_lt0, e_0le, e_0lt, e_le0, if_true, if_false, not_true_eq_false, not_false_eq_true, ite_true, ite_false, Nat.reduceAdd, Nat.reduceMul, Nat.reduceLeDiff, Nat.reduceLT, Nat.reduceEqDiff, Nat.reduceSub, ↓reduceIte, Nat.reduceDiv, Nat.reduceMod]
theorem o_append {r : Bool × Nat} {c : Nat} (hP : tb_OP h t tx le r v) (h60 : le < 60) (hc : c < 65536) (hQ : ∀ h', tb_OP h' t (va_up tx le c) (le + 1) r v → (∀ q, q ≠ t → q ≠ t + 1 → h' q = h q) → Q (some (.int (nI (le + 1)))) h' nx) :
    tb_wp E d 20 0 [.ref t, .int (nI c)] [] h nx 0 0 Q := by
  have g0 := hP.g
  have vk : 0 ≤ nI c ∧ nI c < 65536 := ⟨by rw [e_0le (by omega)]; trivial, by rw [show (65536 : Int32) = nI 65536 by decide, e_lt (by omega) (by decide)]; exact hc⟩
  simp (disch := first | assumption | omega | exact tb_sm0 | exact tb_sm1 _ | exact tb_sm2 _ _ | exact tb_sm3 _ _ _ | exact tb_sm4 _ _ _ _ | exact Or.inl rfl | exact Or.inr rfl | fail) only [r20_0, r20_1, r20_4, r20_6, r20_9, r20_11, r20_12, r20_13, r20_16, r20_17, r20_20, r20_21, r20_22, r20_23i, r20_23, r20_24, r20_27, r20_28, r20_29, r20_32, r20_33, r20_36, g0, h60, tb_vl_some, tb_vl_none, tb_wF_some, nI_add, pk_mul, e_sub, e_div, tb_nmod, e_dec, e_le, e_lt, e_eq, e_eq0, e_lt0, e_0le, e_0lt, e_le0, if_true, if_false, not_true_eq_false, not_false_eq_true, ite_true, ite_false, Nat.reduceAdd, Nat.reduceMul, Nat.reduceLeDiff, Nat.reduceLT, Nat.reduceEqDiff, Nat.reduceSub, ↓reduceIte, Nat.reduceDiv, Nat.reduceMod]
  refine hP.2.st h60 (by decide) (fun h2 hA2 hF2 => ?_)
  have hP2 : tb_OP h2 t (va_up tx le c) le r v := ⟨(hF2 t (by omega)).trans hP.1, hA2.to rfl (fun j hj => by unfold upd va_up; dsimp only; split <;> rfl)⟩
  have g2 := hP2.g
  simp (disch := first | assumption | omega | exact tb_sm0 | exact tb_sm1 _ | exact tb_sm2 _ _ | exact tb_sm3 _ _ _ | exact tb_sm4 _ _ _ _ | exact Or.inl rfl | exact Or.inr rfl | fail) only [r20_0, r20_1, r20_4, r20_6, r20_9, r20_11, r20_12, r20_13, r20_16, r20_17, r20_20, r20_21, r20_22, r20_23i, r20_23, r20_24, r20_27, r20_28, r20_29, r20_32, r20_33, r20_36, g2, tb_vl_some, tb_vl_none, tb_wF_some, nI_add, pk_mul, e_sub, e_div, tb_nmod, e_dec, e_le, e_lt, e_eq, e_eq0, e_lt0, e_0le, e_0lt, e_le0, if_true, if_false, not_true_eq_false, not_false_eq_true, ite_true, ite_false, Nat.reduceAdd, Nat.reduceMul, Nat.reduceLeDiff, Nat.reduceLT, Nat.reduceEqDiff, Nat.reduceSub, ↓reduceIte, Nat.reduceDiv, Nat.reduceMod]
  refine hP2.pf (r' := r) (v' := v) (le' := le + 1) (by decide) rfl (fun h3 hP3 hF3 => ?_)
  have g3 := hP3.g
  simp (disch := first | assumption | omega | exact tb_sm0 | exact tb_sm1 _ | exact tb_sm2 _ _ | exact tb_sm3 _ _ _ | exact tb_sm4 _ _ _ _ | exact Or.inl rfl | exact Or.inr rfl | fail) only [r20_0, r20_1, r20_4, r20_6, r20_9, r20_11, r20_12, r20_13, r20_16, r20_17, r20_20, r20_21, r20_22, r20_23i, r20_23, r20_24, r20_27, r20_28, r20_29, r20_32, r20_33, r20_36, g3, tb_vl_some, tb_vl_none, tb_wF_some, nI_add, pk_mul, e_sub, e_div, tb_nmod, e_dec, e_le, e_lt, e_eq, e_eq0, e_lt0, e_0le, e_0lt, e_le0, if_true, if_false, not_true_eq_false, not_false_eq_true, ite_true, ite_false, Nat.reduceAdd, Nat.reduceMul, Nat.reduceLeDiff, Nat.reduceLT, Nat.reduceEqDiff, Nat.reduceSub, ↓reduceIte, Nat.reduceDiv, Nat.reduceMod]
  exact hQ h3 hP3 (fun q q1 q2 => by rw [hF3 q q1, hF2 q q2])
theorem o_clear {r : Bool × Nat} (hP : tb_OP h t tx le r v) (hQ : ∀ h', tb_OP h' t tx 0 r v → (∀ q, q ≠ t → h' q = h q) → Q (some (.int (nI le))) h' nx) :
    tb_wp E d 21 0 [.ref t, .long 0] [] h nx 0 0 Q := by
  have g0 := hP.g
  simp (disch := first | assumption | omega | exact tb_sm0 | exact tb_sm1 _ | exact tb_sm2 _ _ | exact tb_sm3 _ _ _ | exact tb_sm4 _ _ _ _ | exact Or.inl rfl | exact Or.inr rfl | fail) only [r21_0, r21_1, r21_4, r21_5, r21_6, r21_7, r21_10, r21_11, g0, tb_vl_some, tb_vl_none, tb_wF_some, nI_add, pk_mul, e_sub, e_div, tb_nmod, e_dec, e_le, e_lt, e_eq, e_eq0, e_lt0, e_0le, e_0lt, e_le0, if_true, if_false, not_true_eq_false, not_false_eq_true, ite_true, ite_false, Nat.reduceAdd, Nat.reduceMul, Nat.reduceLeDiff, Nat.reduceLT, Nat.reduceEqDiff, Nat.reduceSub, ↓reduceIte, Nat.reduceDiv, Nat.reduceMod]
  refine hP.pf (r' := r) (v' := v) (le' := 0) (by decide) rfl (fun h3 hP3 hF3 => ?_)
  try simp (disch := first | assumption | omega | exact tb_sm0 | exact tb_sm1 _ | exact tb_sm2 _ _ | exact tb_sm3 _ _ _ | exact tb_sm4 _ _ _ _ | exact Or.inl rfl | exact Or.inr rfl | fail) only [r21_0, r21_1, r21_4, r21_5, r21_6, r21_7, r21_10, r21_11]
  exact hQ h3 hP3 hF3
end O2
