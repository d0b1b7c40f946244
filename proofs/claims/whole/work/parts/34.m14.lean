/-! THE REFERENCE: perform itself -/
def ac_perf (s : Nat → Nat) (hs : Nat → Nat → Nat) (kn : Nat) (g : sp_G) : Int32 × (Nat → Nat) × (Nat → Nat → Nat) × Nat × sp_G :=
  if (ps_go g.2.2.1 g.2.2.2.1 61 0 0).1 = true then (if (ps_do g.2.2.1 g.2.2.2.1 61 0 0 s).1 < 0 then (-4, s, hs, kn, (g.1, g.2.1, g.2.2.1, g.2.2.2.1, nI (ps_do g.2.2.1 g.2.2.2.1 61 0 0 s).2.1, (ps_do g.2.2.1 g.2.2.2.1 61 0 0 s).1)) else (nI (ps_do g.2.2.1 g.2.2.2.1 61 0 0 s).2.1, (ps_do g.2.2.1 g.2.2.2.1 61 0 0 s).2.2, (sp_rec hs kn s).1, (sp_rec hs kn s).2, g)) else (-100 - nI (ps_go g.2.2.1 g.2.2.2.1 61 0 0).2.1, s, hs, kn, g)
theorem W_do {tx : Nat → Nat} {le : Nat} (f : Nat) : ∀ (p n : Nat) (s : Nat → Nat), sp_W s → sp_W (ps_do tx le f p n s).2.2 := by
  induction f with
  | zero => intro p n s hW; exact hW
  | succ f ih =>
    intro p n s hW
    rw [ps_do]
    split
    · exact W_ord hW _
    · split
      · exact ih _ _ _ (W_ord hW _)
      · exact W_ord hW _
theorem W_perf {s : Nat → Nat} {hs : Nat → Nat → Nat} {kn : Nat} {g : sp_G} (hW : sp_W s) : sp_W (ac_perf s hs kn g).2.1 := by
  unfold ac_perf
  split
  · split
    · exact hW
    · exact W_do _ _ _ _ hW
  · exact hW
section M14
variable {E : tb_env} {d : Nat} {nx : Nat} {Q : Option Value → tb_heap → Nat → Prop} {m : Nat}
theorem m_perf_l {f : Nat → Nat} {c1 c2 : Value} {ob : Option tb_cell} (ho : ∀ h' : tb_heap, h' m = ob → tb_gf h' m 6 0 = some (.ref (m + 1)) ∧ tb_gf h' m 6 2 = some (.ref (m + 3))) (n : Nat) : ∀ (i : Nat) (h : tb_heap) (F : Nat → Int32), i + n = 368 → h m = ob → tb_isA h (m + 3) 0 368 (fun j => nI (f j)) → tb_isA h (m + 1) 0 368 F → (∀ j, j < i → F j = nI (f j)) → (∀ h', tb_isA h' (m + 1) 0 368 (fun j => nI (f j)) → (∀ q, q ≠ m + 1 → h' q = h q) → Q (some (.int (-4))) h' nx) →
    tb_wp E d 135 53 [.ref m, c1, c2, .int (nI i)] [] h nx 0 0 Q := by
  induction n with
  | zero =>
    intro i h F hi hm hA hB hF hQ
    obtain ⟨g1, g2⟩ := ho h hm
    have hB' : tb_isA h (m + 1) 0 368 (fun j => nI (f j)) := hB.to rfl (fun j hj => hF j (by omega))
    simp (disch := first | assumption | omega | exact tb_sm0 | exact tb_sm1 _ | exact tb_sm2 _ _ | exact tb_sm3 _ _ _ | exact tb_sm4 _ _ _ _ | exact Or.inl rfl | exact Or.inr rfl | fail) only [r135_53, r135_54, r135_57, nI_add, pk_mul, e_sub, e_div, tb_nmod, e_dec, e_le, e_lt, e_eq, e_eq0, e_lt0, e_0le, e_0lt, e_le0, if_true, if_false, not_true_eq_false, not_false_eq_true, ite_true, ite_false, Nat.reduceAdd, Nat.reduceMul, Nat.reduceLeDiff, Nat.reduceLT, Nat.reduceEqDiff, Nat.reduceSub, ↓reduceIte, Nat.reduceDiv, Nat.reduceMod]
    rw [if_pos (by omega)]
    simp (disch := first | assumption | omega | exact tb_sm0 | exact tb_sm1 _ | exact tb_sm2 _ _ | exact tb_sm3 _ _ _ | exact tb_sm4 _ _ _ _ | exact Or.inl rfl | exact Or.inr rfl | fail) only [r135_78, r135_80]
    exact hQ h hB' (fun _ _ => rfl)
  | succ n ih =>
    intro i h F hi hm hA hB hF hQ
    obtain ⟨g1, g2⟩ := ho h hm
    have ld : ∀ {j : Nat} (hj : j < 368) {K : Int32 → Prop}, tb_wF (tb_ld E h 0 (m + 3) (nI j)) K = K (nI (f j)) := fun hj => hA.ld hj (by decide)
    simp (disch := first | assumption | omega | exact tb_sm0 | exact tb_sm1 _ | exact tb_sm2 _ _ | exact tb_sm3 _ _ _ | exact tb_sm4 _ _ _ _ | exact Or.inl rfl | exact Or.inr rfl | fail) only [r135_53, r135_54, r135_57, nI_add, pk_mul, e_sub, e_div, tb_nmod, e_dec, e_le, e_lt, e_eq, e_eq0, e_lt0, e_0le, e_0lt, e_le0, if_true, if_false, not_true_eq_false, not_false_eq_true, ite_true, ite_false, Nat.reduceAdd, Nat.reduceMul, Nat.reduceLeDiff, Nat.reduceLT, Nat.reduceEqDiff, Nat.reduceSub, ↓reduceIte, Nat.reduceDiv, Nat.reduceMod]
    rw [if_neg (by omega)]
    simp (disch := first | assumption | omega | exact tb_sm0 | exact tb_sm1 _ | exact tb_sm2 _ _ | exact tb_sm3 _ _ _ | exact tb_sm4 _ _ _ _ | exact Or.inl rfl | exact Or.inr rfl | fail) only [r135_0, r135_1, r135_2, r135_5, r135_6, r135_7, r135_10, r135_13, r135_15, r135_16, r135_19, r135_20, r135_21, r135_22, r135_25, r135_26, r135_27, r135_30, r135_31, r135_32, r135_35, r135_38, r135_39, r135_40, r135_43, r135_44, r135_45, r135_48, r135_51, r135_52, r135_54, r135_57, r135_60, r135_61, r135_64, r135_65, r135_66, r135_69, r135_70, r135_71, r135_72, r135_75, r135_78, r135_80, r135_81, r135_82, r135_85, r135_86, g1, g2, ld, tb_vl_some, tb_vl_none, tb_wF_some, nI_add, pk_mul, e_sub, e_div, tb_nmod, e_dec, e_le, e_lt, e_eq, e_eq0, e_lt0, e_0le, e_0lt, e_le0, if_true, if_false, not_true_eq_false, not_false_eq_true, ite_true, ite_false, Nat.reduceAdd, Nat.reduceMul, Nat.reduceLeDiff, Nat.reduceLT, Nat.reduceEqDiff, Nat.reduceSub, ↓reduceIte, Nat.reduceDiv, Nat.reduceMod]
    refine hB.st (by omega) (by decide) (fun h2 hB2 hF2 => ?_)
    refine ih (i + 1) h2 _ (by omega) (by rw [hF2 _ (by omega), hm]) (hA.to (hF2 _ (by omega)) (fun _ _ => rfl)) hB2 (fun j hj => ?_) (fun h3 h31 h32 => hQ h3 h31 (fun q hq => by rw [h32 q hq, hF2 q hq]))
    unfold upd
    by_cases c : j = i
    · rw [if_pos c, c]
    · rw [if_neg c]; exact hF j (by omega)
theorem m_go_z {s : Nat → Nat} {kn : Int32} {g : sp_G} {po wr sp dd : Int32} {as ah cm od : Nat → Int32} {bf : Nat → Nat} {h : tb_heap} (hM : tb_MG h m s kn g po wr sp as ah cm od bf) (hQ : ∀ h', tb_MP h' m s kn g (true, 0) (nI 0) as ah cm od bf → (∀ q, q ≠ m → h' q = h q) → tb_wp E d 134 19 [.ref m, .int dd, .int (nI 0), .int (nI 1), .long 0, .long 0] [] h' nx 0 0 Q) :
    tb_wp E d 134 0 [.ref m, .int dd, .long 0, .long 0, .long 0, .long 0] [] h nx 0 0 Q := by
  simp (disch := first | assumption | omega | exact tb_sm0 | exact tb_sm1 _ | exact tb_sm2 _ _ | exact tb_sm3 _ _ _ | exact tb_sm4 _ _ _ _ | exact Or.inl rfl | exact Or.inr rfl | fail) only [r134_0, r134_1, r134_2, r134_5, r134_6, r134_7, r134_10, r134_11, r134_12, r134_15, r134_16, r134_17, r134_18, r134_20, r134_23, r134_24, r134_27, r134_28, r134_31, r134_32, r134_35, r134_38, r134_39, r134_41, r134_42, r134_44, r134_47, r134_49, r134_51, r134_54, r134_56, r134_59, r134_60, r134_63, r134_64, r134_65, r134_68, r134_71, r134_72, r134_75, r134_76, r134_77, r134_78, r134_79, r134_82, r134_85, r134_86, r134_89, r134_92, r134_93, r134_96, r134_97, r134_100, r134_103, r134_104, r134_107, r134_108, r134_109, r134_110, r134_113, r134_114, r134_116, r134_118, r134_121, r134_123, r134_124, r134_127, r134_130, r134_131, r134_134, r134_135, r134_136, r134_139, r134_140]
  refine tb_pf_ok hM.1 (by simp) (fun h2 h21 h22 => ?_)
  refine tb_pf_ok h21 (by simp) (fun h3 h31 h32 => ?_)
  refine tb_pf_ok h31 (by simp) (fun h4 h41 h42 => ?_)
  try simp (disch := first | assumption | omega | exact tb_sm0 | exact tb_sm1 _ | exact tb_sm2 _ _ | exact tb_sm3 _ _ _ | exact tb_sm4 _ _ _ _ | exact Or.inl rfl | exact Or.inr rfl | fail) only [r134_0, r134_1, r134_2, r134_5, r134_6, r134_7, r134_10, r134_11, r134_12, r134_15, r134_16, r134_17, r134_18, r134_20, r134_23, r134_24, r134_27, r134_28, r134_31, r134_32, r134_35, r134_38, r134_39, r134_41, r134_42, r134_44, r134_47, r134_49, r134_51, r134_54, r134_56, r134_59, r134_60, r134_63, r134_64, r134_65, r134_68, r134_71, r134_72, r134_75, r134_76, r134_77, r134_78, r134_79, r134_82, r134_85, r134_86, r134_89, r134_92, r134_93, r134_96, r134_97, r134_100, r134_103, r134_104, r134_107, r134_108, r134_109, r134_110, r134_113, r134_114, r134_116, r134_118, r134_121, r134_123, r134_124, r134_127, r134_130, r134_131, r134_134, r134_135, r134_136, r134_139, r134_140]
  have fr : ∀ q, q ≠ m → h4 q = h q := fun q hq => by rw [h42 q hq, h32 q hq, h22 q hq]
  exact hQ h4 (hM.upO (g' := g) (po' := nI 0) (wr' := nI 0) (sp' := nI 0) (kn' := kn) h41 ⟨rfl, rfl⟩ fr) fr
theorem m_perform {h : tb_heap} {s : Nat → Nat} {hs : Nat → Nat → Nat} {kn : Nat} {g : sp_G} (hF : tb_MF h m s hs kn g) (hW : sp_W s) (hT : ∀ j, g.2.2.1 j < 65536) (h60 : g.2.2.2.1 ≤ 60) (hd : 8 ≤ d) (hQ : ∀ h', tb_MF h' m (ac_perf s hs kn g).2.1 (ac_perf s hs kn g).2.2.1 (ac_perf s hs kn g).2.2.2.1 (ac_perf s hs kn g).2.2.2.2 → tb_out h h' m (m + 9) → Q (some (.int (ac_perf s hs kn g).1)) h' nx) :
    tb_wp E d 135 0 [.ref m, .long 0, .long 0, .long 0] [] h nx 0 0 Q := by
  obtain ⟨po, wr, sp, as, ah, cm, od, bf, hM, hH⟩ := hF
  have hO := hM.1.O
  simp (disch := first | assumption | omega | exact tb_sm0 | exact tb_sm1 _ | exact tb_sm2 _ _ | exact tb_sm3 _ _ _ | exact tb_sm4 _ _ _ _ | exact Or.inl rfl | exact Or.inr rfl | fail) only [r135_0, r135_1, r135_2]
  refine m_go_z hM (fun h2 hM2 hF2 => ?_)
  refine m_go0 hT h60 (by omega) 61 0 0 h2 _ _ _ _ (by omega) (by omega) (by omega) hM2 (fun h3 od3 sp3 hM3 hF3 => ?_)
  have g3 := hM3.1.g
  have hO3 := hM3.1.O
  unfold ac_perf at hQ
  have fr3 : tb_out h h3 m (m + 9) := fun q hq => by rw [hF3 q (by omega) (by omega), hF2 q (by omega)]
  generalize hGo : ps_go g.2.2.1 g.2.2.2.1 61 0 0 = G0 at *
  obtain ⟨ok, pos, cnt⟩ := G0
  cases ok with
  | false =>
    rw [if_neg (show ¬ (false, pos, cnt).1 = true from Bool.false_ne_true)] at hQ
    have e0 : ps_w (false, pos).1 = 1 := rfl
    dsimp only at g3
    simp (disch := first | assumption | omega | exact tb_sm0 | exact tb_sm1 _ | exact tb_sm2 _ _ | exact tb_sm3 _ _ _ | exact tb_sm4 _ _ _ _ | exact Or.inl rfl | exact Or.inr rfl | fail) only [r135_0, r135_1, r135_2, r135_5, r135_6, r135_7, r135_10, r135_13, r135_15, r135_16, r135_19, r135_20, r135_21, r135_22, r135_25, r135_26, r135_27, r135_30, r135_31, r135_32, r135_35, r135_38, r135_39, r135_40, r135_43, r135_44, r135_45, r135_48, r135_51, r135_52, r135_53, r135_54, r135_57, r135_60, r135_61, r135_64, r135_65, r135_66, r135_69, r135_70, r135_71, r135_72, r135_75, r135_78, r135_80, r135_81, r135_82, r135_85, r135_86, g3, e0, tb_vl_some, tb_vl_none, tb_wF_some, nI_add, pk_mul, e_sub, e_div, tb_nmod, e_dec, e_le, e_lt, e_eq, e_eq0, e_lt0, e_0le, e_0lt, e_le0, if_true, if_false, not_true_eq_false, not_false_eq_true, ite_true, ite_false, Nat.reduceAdd, Nat.reduceMul, Nat.reduceLeDiff, Nat.reduceLT, Nat.reduceEqDiff, Nat.reduceSub, ↓reduceIte, Nat.reduceDiv, Nat.reduceMod]
    exact hQ h3 ⟨_, _, _, _, _, _, _, _, hM3, hH⟩ fr3
  | true =>
    rw [if_pos rfl] at hQ
    have e0 : ps_w (true, pos).1 = 0 := rfl
    dsimp only at g3
    simp (disch := first | assumption | omega | exact tb_sm0 | exact tb_sm1 _ | exact tb_sm2 _ _ | exact tb_sm3 _ _ _ | exact tb_sm4 _ _ _ _ | exact Or.inl rfl | exact Or.inr rfl | fail) only [r135_0, r135_1, r135_2, r135_5, r135_6, r135_7, r135_10, r135_13, r135_15, r135_16, r135_19, r135_20, r135_21, r135_22, r135_25, r135_26, r135_27, r135_30, r135_31, r135_32, r135_35, r135_38, r135_39, r135_40, r135_43, r135_44, r135_45, r135_48, r135_51, r135_52, r135_54, r135_57, r135_60, r135_61, r135_64, r135_65, r135_66, r135_69, r135_70, r135_71, r135_72, r135_75, r135_78, r135_80, r135_81, r135_82, r135_85, r135_86, g3, e0, tb_vl_some, tb_vl_none, tb_wF_some, nI_add, pk_mul, e_sub, e_div, tb_nmod, e_dec, e_le, e_lt, e_eq, e_eq0, e_lt0, e_0le, e_0lt, e_le0, if_true, if_false, not_true_eq_false, not_false_eq_true, ite_true, ite_false, Nat.reduceAdd, Nat.reduceMul, Nat.reduceLeDiff, Nat.reduceLT, Nat.reduceEqDiff, Nat.reduceSub, ↓reduceIte, Nat.reduceDiv, Nat.reduceMod]
    refine m_looks hM3.1 hM3.2.1 hM3.2.2.2.1 (fun h4 hA4 hF4 => ?_)
    have hM4 := tb_MG.upA hM3 hA4 hF4
    have hO4 := hM4.1.O
    simp (disch := first | assumption | omega | exact tb_sm0 | exact tb_sm1 _ | exact tb_sm2 _ _ | exact tb_sm3 _ _ _ | exact tb_sm4 _ _ _ _ | exact Or.inl rfl | exact Or.inr rfl | fail) only [r135_0, r135_1, r135_2, r135_5, r135_6, r135_7, r135_10, r135_13, r135_15, r135_16, r135_19, r135_20, r135_21, r135_22, r135_25, r135_26, r135_27, r135_30, r135_31, r135_32, r135_35, r135_38, r135_39, r135_40, r135_43, r135_44, r135_45, r135_48, r135_51, r135_52, r135_54, r135_57, r135_60, r135_61, r135_64, r135_65, r135_66, r135_69, r135_70, r135_71, r135_72, r135_75, r135_78, r135_80, r135_81, r135_82, r135_85, r135_86, tb_vl_some, tb_vl_none, tb_wF_some]
    refine m_go_z hM4 (fun h5 hM5 hF5 => ?_)
    refine m_go1 hT h60 (by omega) 61 0 0 0 h5 s _ _ _ _ _ (by omega) (by omega) (by rw [hGo]) hW hM5 (fun h6 r6 od6 cm6 hM6 hF6 => ?_)
    have g6 := hM6.1.g
    have hO6 := hM6.1.O
    have fr6 : tb_out h h6 m (m + 9) := fun q hq => by rw [hF6 q hq, hF5 q (by omega), hF4 q (by omega), fr3 q hq]
    generalize ps_do g.2.2.1 g.2.2.2.1 61 0 0 s = R at *
    obtain ⟨x, n, s6⟩ := R
    dsimp only at hQ g6 hM6
    by_cases c1 : x < 0
    · rw [if_pos c1] at hQ
      have c1' : ¬ 0 ≤ x := Int32.not_le.mpr c1
      simp (disch := first | assumption | omega | exact tb_sm0 | exact tb_sm1 _ | exact tb_sm2 _ _ | exact tb_sm3 _ _ _ | exact tb_sm4 _ _ _ _ | exact Or.inl rfl | exact Or.inr rfl | fail) only [r135_0, r135_1, r135_2, r135_5, r135_6, r135_7, r135_10, r135_13, r135_15, r135_16, r135_19, r135_20, r135_21, r135_22, r135_25, r135_26, r135_27, r135_30, r135_31, r135_32, r135_35, r135_38, r135_39, r135_40, r135_43, r135_44, r135_45, r135_48, r135_51, r135_52, r135_54, r135_57, r135_60, r135_61, r135_64, r135_65, r135_66, r135_69, r135_70, r135_71, r135_72, r135_75, r135_78, r135_80, r135_81, r135_82, r135_85, r135_86, g6, c1', tb_vl_some, tb_vl_none, tb_wF_some, nI_add, pk_mul, e_sub, e_div, tb_nmod, e_dec, e_le, e_lt, e_eq, e_eq0, e_lt0, e_0le, e_0lt, e_le0, if_true, if_false, not_true_eq_false, not_false_eq_true, ite_true, ite_false, Nat.reduceAdd, Nat.reduceMul, Nat.reduceLeDiff, Nat.reduceLT, Nat.reduceEqDiff, Nat.reduceSub, ↓reduceIte, Nat.reduceDiv, Nat.reduceMod]
      refine tb_pf_ok hM6.1 (by simp) (fun h7 h71 h72 => ?_)
      have g7 : tb_gf h7 m 6 15 = some (.int x) := by
        have : tb_Mo h7 m (nI g.2.1) (nI kn) (nI g.2.2.2.1) (nI n) g.2.2.2.2.2 (nI r6.2) (nI (ps_w r6.1)) x := h71
        exact this.g.2.2.2.2.2.2.2.2.2.2.2.2.2.2.2
      simp (disch := first | assumption | omega | exact tb_sm0 | exact tb_sm1 _ | exact tb_sm2 _ _ | exact tb_sm3 _ _ _ | exact tb_sm4 _ _ _ _ | exact Or.inl rfl | exact Or.inr rfl | fail) only [r135_0, r135_1, r135_2, r135_5, r135_6, r135_7, r135_10, r135_13, r135_15, r135_16, r135_19, r135_20, r135_21, r135_22, r135_25, r135_26, r135_27, r135_30, r135_31, r135_32, r135_35, r135_38, r135_39, r135_40, r135_43, r135_44, r135_45, r135_48, r135_51, r135_52, r135_54, r135_57, r135_60, r135_61, r135_64, r135_65, r135_66, r135_69, r135_70, r135_71, r135_72, r135_75, r135_78, r135_80, r135_81, r135_82, r135_85, r135_86, g7, tb_vl_some, tb_vl_none, tb_wF_some]
      refine tb_pf_ok h71 (by simp) (fun h8 h81 h82 => ?_)
      try simp (disch := first | assumption | omega | exact tb_sm0 | exact tb_sm1 _ | exact tb_sm2 _ _ | exact tb_sm3 _ _ _ | exact tb_sm4 _ _ _ _ | exact Or.inl rfl | exact Or.inr rfl | fail) only [r135_0, r135_1, r135_2, r135_5, r135_6, r135_7, r135_10, r135_13, r135_15, r135_16, r135_19, r135_20, r135_21, r135_22, r135_25, r135_26, r135_27, r135_30, r135_31, r135_32, r135_35, r135_38, r135_39, r135_40, r135_43, r135_44, r135_45, r135_48, r135_51, r135_52, r135_54, r135_57, r135_60, r135_61, r135_64, r135_65, r135_66, r135_69, r135_70, r135_71, r135_72, r135_75, r135_78, r135_80, r135_81, r135_82, r135_85, r135_86]
      have fr8 : ∀ q, q ≠ m → h8 q = h6 q := fun q hq => by rw [h82 q hq, h72 q hq]
      have hM8 := tb_MG.upO hM6 (g' := (g.1, g.2.1, g.2.2.1, g.2.2.2.1, nI n, x)) (po' := nI r6.2) (wr' := nI (ps_w r6.1)) (sp' := x) (kn' := nI kn) h81 ⟨rfl, rfl⟩ fr8
      refine m_perf_l (f := s) (ob := h8 m) (fun h' hh => ?_) 368 0 h8 _ rfl rfl hM8.2.2.2.1 hM8.2.1 (fun j hj => by omega) (fun h9 hA9 hF9 => ?_)
      · have h0' : tb_Mo h' m (nI g.2.1) (nI kn) (nI g.2.2.2.1) (nI n) x (nI r6.2) (nI (ps_w r6.1)) x := hh.trans hM8.1
        have g1 := h0'.g
        simp only [g1, and_self]
      · have hM9 := hM8.upS (s' := s) ⟨⟨_, (hF9 m (by omega)).trans hM8.1, rfl, rfl⟩, hA9⟩ (hM8.2.2.2.2.2.2.2.1.to (hF9 _ (by omega)) (fun _ _ => rfl)) (fun q q1 _ => hF9 q q1)
        exact hQ h9 ⟨_, _, _, _, _, _, _, _, hM9, hH⟩ (fun q hq => by rw [hF9 q (by omega), fr8 q (by omega), fr6 q hq])
    · rw [if_neg c1] at hQ
      have c1' : 0 ≤ x := Int32.not_lt.mp c1
      simp (disch := first | assumption | omega | exact tb_sm0 | exact tb_sm1 _ | exact tb_sm2 _ _ | exact tb_sm3 _ _ _ | exact tb_sm4 _ _ _ _ | exact Or.inl rfl | exact Or.inr rfl | fail) only [r135_0, r135_1, r135_2, r135_5, r135_6, r135_7, r135_10, r135_13, r135_15, r135_16, r135_19, r135_20, r135_21, r135_22, r135_25, r135_26, r135_27, r135_30, r135_31, r135_32, r135_35, r135_38, r135_39, r135_40, r135_43, r135_44, r135_45, r135_48, r135_51, r135_52, r135_54, r135_57, r135_60, r135_61, r135_64, r135_65, r135_66, r135_69, r135_70, r135_71, r135_72, r135_75, r135_78, r135_80, r135_81, r135_82, r135_85, r135_86, g6, c1', tb_vl_some, tb_vl_none, tb_wF_some, nI_add, pk_mul, e_sub, e_div, tb_nmod, e_dec, e_le, e_lt, e_eq, e_eq0, e_lt0, e_0le, e_0lt, e_le0, if_true, if_false, not_true_eq_false, not_false_eq_true, ite_true, ite_false, Nat.reduceAdd, Nat.reduceMul, Nat.reduceLeDiff, Nat.reduceLT, Nat.reduceEqDiff, Nat.reduceSub, ↓reduceIte, Nat.reduceDiv, Nat.reduceMod]
      refine m_records hM6 hH (fun h7 bf7 hM7 hH7 hF7 => ?_)
      try simp (disch := first | assumption | omega | exact tb_sm0 | exact tb_sm1 _ | exact tb_sm2 _ _ | exact tb_sm3 _ _ _ | exact tb_sm4 _ _ _ _ | exact Or.inl rfl | exact Or.inr rfl | fail) only [r135_0, r135_1, r135_2, r135_5, r135_6, r135_7, r135_10, r135_13, r135_15, r135_16, r135_19, r135_20, r135_21, r135_22, r135_25, r135_26, r135_27, r135_30, r135_31, r135_32, r135_35, r135_38, r135_39, r135_40, r135_43, r135_44, r135_45, r135_48, r135_51, r135_52, r135_54, r135_57, r135_60, r135_61, r135_64, r135_65, r135_66, r135_69, r135_70, r135_71, r135_72, r135_75, r135_78, r135_80, r135_81, r135_82, r135_85, r135_86, tb_vl_some, tb_vl_none, tb_wF_some]
      exact hQ h7 ⟨_, _, _, _, _, _, _, _, hM7, hH7⟩ (fun q hq => by rw [hF7 q (by omega) (by omega), fr6 q hq])
end M14
